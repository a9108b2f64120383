/** Promise 11, and the guesses that hang on counters. */
final class CounterTest {
    private static final int[] NO_COUNTER = {-1, 8, 9, Integer.MIN_VALUE, Integer.MAX_VALUE};

    public static void main(String[] args) {
        Check check = new Check();
        risesToThree(check);
        fallsToZero(check);
        isThatOfThePlaceModuloEight(check);
        changesInTheLastCycleOfWork(check);
        staysForAllElse(check);
        isGuessedFromTwoOn(check);
        stopsAtItsBounds(check);
        isGuessedByEachValue(check);
        belongsToEachPlace(check);
        outlivesAStart(check);
        check.onlyTells("counter 0", c -> c.counter(0));
        check.onlyTells("counter 7", c -> c.counter(7));
        for (int which : NO_COUNTER) {
            check.throwsIndex("counter " + which, c -> c.counter(which));
        }
        check.end();
    }

    private static void risesToThree(Check check) {
        StageChip chip = Chips.with(Chips.same(0, 0, 0));
        chip.cycles(3);
        check.same("counter 0 before", chip.counter(0), 1);
        chip.cycles(1);
        check.same("counter 0 when it went", chip.counter(0), 2);
        check.same("wrong guesses", chip.count(Chips.WRONG_GUESSES), 1);
        chip.cycles(3);
        check.same("counter 0 when it went twice", chip.counter(0), 3);
        chip.cycles(20);
        check.same("counter 0 at last", chip.counter(0), 3);
        check.same("wrong guesses at last", chip.count(Chips.WRONG_GUESSES), 1);
    }

    private static void fallsToZero(Check check) {
        StageChip chip = Chips.with(Chips.other(0, 0, 9), Chips.jump(0, -1));
        chip.cycles(4);
        check.same("counter 0 when it stayed", chip.counter(0), 0);
        chip.cycles(20);
        check.same("counter 0 at last", chip.counter(0), 0);
        check.same("wrong guesses", chip.count(Chips.WRONG_GUESSES), 0);
    }

    private static void isThatOfThePlaceModuloEight(Check check) {
        for (int place = 0; place < 64; place += 9) {
            StageChip chip = new StageChip();
            Chips.putAt(chip, place, Chips.other(1, 0, 0));
            chip.set(1, 1);
            chip.start(place);
            chip.cycles(4);
            StringBuilder due = new StringBuilder("11111111");
            due.setCharAt(place % 8, '2');
            check.same("counters of a branch at " + place, Chips.counters(chip), due.toString());
        }
    }

    private static void changesInTheLastCycleOfWork(Check check) {
        StageChip chip = Chips.with(Chips.load(1, 0, 0), Chips.same(1, 0, 1));
        chip.cycles(5);
        check.same("counter 1 while it waits", chip.counter(1), 1);
        chip.cycles(1);
        check.same("counter 1 then", chip.counter(1), 2);
        check.same("wrong guesses of a branch to the next place", chip.count(Chips.WRONG_GUESSES), 0);
    }

    private static void staysForAllElse(Check check) {
        StageChip chip = Chips.with(Chips.jump(1, 2), Chips.nop(), Chips.back(2, 0, 5), Chips.nop(), Chips.nop(),
                Chips.of(Chips.LESS, 3, 0, 1), Chips.store(1, 0, 0), Chips.load(3, 0, 0), Chips.call());
        chip.cycles(60);
        check.same("counters", Chips.counters(chip), "11111111");
    }

    /** The branch at 8 has the counter of the one at 0, and is fetched with what that one made of it. */
    private static void isGuessedFromTwoOn(Check check) {
        StageChip chip = Chips.with(Chips.same(0, 0, 8));
        Chips.putAt(chip, 8, Chips.other(0, 0, 12));
        check.trace("a guess by another's counter", chip, "0 . . . .", "1 0 . . .", "2 1 0 . .", "8 . . 0 .",
                "20 8 . . 0", "21 20 8 . .", "9 . . 8 .");
        check.same("counter 0", chip.counter(0), 1);
        check.same("wrong guesses", chip.count(Chips.WRONG_GUESSES), 2);
    }

    /** One branch at 0, through its last cycle of (3). */
    private static void branchOnce(StageChip chip, boolean goes) {
        Chips.putAt(chip, 0, goes ? Chips.same(0, 0, 1) : Chips.other(0, 0, 1));
        chip.start(0);
        chip.cycles(4);
    }

    /** Beyond a bound nothing is saved up: the first step back shows at once. */
    private static void stopsAtItsBounds(Check check) {
        StageChip chip = new StageChip();
        int[] up = {2, 3, 3, 3, 3};
        for (int due : up) {
            branchOnce(chip, true);
            check.same("counter 0 on its way up", chip.counter(0), due);
        }
        int[] down = {2, 1, 0, 0, 0, 0};
        for (int due : down) {
            branchOnce(chip, false);
            check.same("counter 0 on its way down", chip.counter(0), due);
        }
        branchOnce(chip, true);
        check.same("counter 0 up again", chip.counter(0), 1);
        check.same("all counters", Chips.counters(chip), "11111111");
    }

    private static void isGuessedByEachValue(Check check) {
        for (int value = 0; value <= 3; value++) {
            StageChip chip = new StageChip();
            for (int steps = Math.abs(value - 1); steps > 0; steps--) {
                branchOnce(chip, value > 1);
            }
            check.same("counter 0", chip.counter(0), value);
            guesses(check, chip, Chips.same(1, 2, 20), value > 1 ? 28 : 9);
            guesses(check, chip, Chips.other(1, 2, -8), value > 1 ? 0 : 9);
            guesses(check, chip, Chips.jump(0, 20), 28);
            guesses(check, chip, Chips.back(0, 0, 20), 9);
            guesses(check, chip, Chips.nop(), 9);
        }
    }

    /** The instruction at 8, which has counter 0, is fetched; it goes no further, so nothing is learnt. */
    private static void guesses(Check check, StageChip chip, int[] instruction, int due) {
        Chips.putAt(chip, 8, instruction);
        chip.start(8);
        chip.cycles(1);
        check.same("guess of operation " + instruction[0] + " by " + chip.counter(0), chip.count(Chips.WHERE), due);
    }

    private static void belongsToEachPlace(Check check) {
        for (int place = 0; place < 64; place++) {
            StageChip chip = new StageChip();
            Chips.putAt(chip, place, Chips.other(0, 0, 1));
            chip.start(place);
            chip.cycles(4);
            StringBuilder due = new StringBuilder("11111111");
            due.setCharAt(place % 8, '0');
            check.same("counters of a branch at " + place, Chips.counters(chip), due.toString());
        }
    }

    private static void outlivesAStart(Check check) {
        StageChip chip = new StageChip();
        branchOnce(chip, true);
        chip.start(40);
        check.same("counter 0", chip.counter(0), 2);
        Chips.putAt(chip, 40, Chips.call());
        chip.cycles(6);
        check.same("faults", chip.count(Chips.FAULTS), 1);
        check.same("counter 0 behind a fault", chip.counter(0), 2);
    }
}
