/** Promise 11, and the guesses that hang on counters. */
final class CounterTest {
    private static final int[] NO_COUNTER = {-1, 8, 9, Integer.MIN_VALUE, Integer.MAX_VALUE};

    public static void main(String[] args) {
        Check check = new Check();
        risesToThree(check);
        fallsToZero(check);
        isThatOfThePlaceModuloEight(check);
        changesInTheLastCycleOfWork(check);
        staysForAllElse(check);
        isGuessedFromTwoOn(check);
        for (int which : NO_COUNTER) {
            check.throwsIndex("counter " + which, c -> c.counter(which));
        }
        check.end();
    }

    private static void risesToThree(Check check) {
        StageChip chip = Chips.with(Chips.same(0, 0, 0));
        chip.cycles(3);
        check.same("counter 0 before", chip.counter(0), 1);
        chip.cycles(1);
        check.same("counter 0 when it went", chip.counter(0), 2);
        check.same("wrong guesses", chip.count(Chips.WRONG_GUESSES), 1);
        chip.cycles(3);
        check.same("counter 0 when it went twice", chip.counter(0), 3);
        chip.cycles(20);
        check.same("counter 0 at last", chip.counter(0), 3);
        check.same("wrong guesses at last", chip.count(Chips.WRONG_GUESSES), 1);
    }

    private static void fallsToZero(Check check) {
        StageChip chip = Chips.with(Chips.other(0, 0, 9), Chips.jump(0, -1));
        chip.cycles(4);
        check.same("counter 0 when it stayed", chip.counter(0), 0);
        chip.cycles(20);
        check.same("counter 0 at last", chip.counter(0), 0);
        check.same("wrong guesses", chip.count(Chips.WRONG_GUESSES), 0);
    }

    private static void isThatOfThePlaceModuloEight(Check check) {
        for (int place = 0; place < 64; place += 9) {
            StageChip chip = new StageChip();
            Chips.putAt(chip, place, Chips.other(1, 0, 0));
            chip.set(1, 1);
            chip.start(place);
            chip.cycles(4);
            StringBuilder due = new StringBuilder("11111111");
            due.setCharAt(place % 8, '2');
            check.same("counters of a branch at " + place, Chips.counters(chip), due.toString());
        }
    }

    private static void changesInTheLastCycleOfWork(Check check) {
        StageChip chip = Chips.with(Chips.load(1, 0, 0), Chips.same(1, 0, 1));
        chip.cycles(5);
        check.same("counter 1 while it waits", chip.counter(1), 1);
        chip.cycles(1);
        check.same("counter 1 then", chip.counter(1), 2);
        check.same("wrong guesses of a branch to the next place", chip.count(Chips.WRONG_GUESSES), 0);
    }

    private static void staysForAllElse(Check check) {
        StageChip chip = Chips.with(Chips.jump(1, 2), Chips.nop(), Chips.back(2, 0, 5), Chips.nop(), Chips.nop(),
                Chips.of(Chips.LESS, 3, 0, 1), Chips.store(1, 0, 0), Chips.load(3, 0, 0), Chips.call());
        chip.cycles(60);
        check.same("counters", Chips.counters(chip), "11111111");
    }

    /** The branch at 8 has the counter of the one at 0, and is fetched with what that one made of it. */
    private static void isGuessedFromTwoOn(Check check) {
        StageChip chip = Chips.with(Chips.same(0, 0, 8));
        Chips.putAt(chip, 8, Chips.other(0, 0, 12));
        check.trace("a guess by another's counter", chip, "0 . . . .", "1 0 . . .", "2 1 0 . .", "8 . . 0 .",
                "20 8 . . 0", "21 20 8 . .", "9 . . 8 .");
        check.same("counter 0", chip.counter(0), 1);
        check.same("wrong guesses", chip.count(Chips.WRONG_GUESSES), 2);
    }
}
