/** Promise 13. */
final class CountTest {
    private static final int[] NONE_OF_THESE = {-1, 9, 10, Integer.MIN_VALUE, Integer.MAX_VALUE};

    public static void main(String[] args) {
        Check check = new Check();
        countsCyclesAndRetired(check);
        countsWaitsInReached(check);
        countsWrongGuesses(check);
        countsFaultsThatCame(check);
        tellsWhere(check);
        tellsWhetherHalted(check);
        tellsWhereWhenItIsNoPlace(check);
        keepsCauseAndReturn(check);
        for (int what = 0; what <= 8; what++) {
            int one = what;
            check.onlyTells("count of " + one, c -> c.count(one));
        }
        for (int what : NONE_OF_THESE) {
            check.throwsArgument("count of " + what, c -> c.count(what));
        }
        check.end();
    }

    private static void countsCyclesAndRetired(Check check) {
        StageChip chip = new StageChip();
        chip.cycles(9);
        check.same("counts", Chips.counts(chip), "9 4 0 0 0 9 0 0 0");
        chip.start(2);
        check.same("counts behind a start", Chips.counts(chip), "9 4 0 0 0 2 0 0 0");
        chip.cycles(6);
        check.same("counts then", Chips.counts(chip), "15 5 0 0 0 8 0 0 0");
    }

    private static void countsWaitsInReached(Check check) {
        StageChip chip = Chips.with(Chips.load(1, 0, 0), Chips.of(Chips.MUL, 2, 1, 1), Chips.of(Chips.DIV, 3, 2, 1),
                Chips.halt());
        chip.poke(0, 6);
        chip.cycles(30);
        check.same("counts", Chips.counts(chip), "17 3 8 0 0 8 0 0 1");
        check.same("register 2", chip.register(2), 36);
        check.same("register 3", chip.register(3), 6);
    }

    private static void countsWrongGuesses(Check check) {
        StageChip chip = Chips.with(Chips.setTo(1, 3), Chips.addn(1, 1, -1), Chips.other(1, 0, -1), Chips.halt());
        chip.cycles(60);
        check.same("counts", Chips.counts(chip), "17 7 0 2 0 8 0 0 1");
        check.same("counter 2", chip.counter(2), 2);
    }

    private static void countsFaultsThatCame(Check check) {
        StageChip chip = Chips.with(Chips.same(0, 0, 4), Chips.call(), Chips.call(), Chips.call(),
                Chips.load(1, 0, -1), Chips.call(), Chips.halt());
        chip.handler(20);
        chip.cycles(8);
        check.same("before any came", chip.count(Chips.FAULTS), 0);
        check.same("cause before", chip.count(Chips.CAUSE), 0);
        chip.cycles(1);
        check.same("counts when one came", Chips.counts(chip), "9 1 0 1 1 20 3 4 0");
        chip.start(5);
        chip.cycles(6);
        check.same("counts when the next came", Chips.counts(chip), "15 1 0 1 2 20 2 5 0");
    }

    private static void tellsWhere(Check check) {
        StageChip chip = Chips.with(Chips.nop(), Chips.jump(0, 20), Chips.same(0, 0, 1));
        check.same("at first", chip.count(Chips.WHERE), 0);
        chip.cycles(1);
        check.same("behind place 0", chip.count(Chips.WHERE), 1);
        chip.cycles(1);
        check.same("behind a JUMP", chip.count(Chips.WHERE), 21);
    }

    private static void tellsWhetherHalted(Check check) {
        StageChip chip = Chips.with(Chips.halt());
        chip.cycles(5);
        check.same("HALT in WRITTEN", chip.count(Chips.HALTED), 0);
        chip.cycles(1);
        check.same("HALT that left it", chip.count(Chips.HALTED), 1);
        check.same("counts", Chips.counts(chip), "6 0 0 0 0 5 0 0 1");
    }

    private static void tellsWhereWhenItIsNoPlace(Check check) {
        StageChip chip = new StageChip();
        chip.start(63);
        chip.cycles(1);
        check.same("behind the last place", chip.count(Chips.WHERE), 64);
        StageChip before = Chips.with(Chips.jump(0, -64));
        before.cycles(1);
        check.same("before the first place", before.count(Chips.WHERE), -64);
    }

    /** They stay until the next fault comes: through a start, a retired instruction and a halt. */
    private static void keepsCauseAndReturn(Check check) {
        StageChip chip = Chips.with(Chips.nop(), Chips.nop(), Chips.call(), Chips.nop(), Chips.halt());
        chip.handler(3);
        chip.cycles(8);
        check.same("counts at the fault", Chips.counts(chip), "8 2 0 0 1 3 2 2 0");
        chip.cycles(30);
        check.same("counts when halted", Chips.counts(chip), "15 3 0 0 1 9 2 2 1");
        chip.start(0);
        check.same("counts behind a start", Chips.counts(chip), "15 3 0 0 1 0 2 2 0");
    }
}
