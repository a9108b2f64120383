/** Promise 9, and the order of a cycle's steps. */
final class CyclesTest {
    private static final int[] NOT_SO_MANY = {0, -1, 301, 302, Integer.MIN_VALUE, Integer.MAX_VALUE};

    public static void main(String[] args) {
        Check check = new Check();
        tellsHowManyRetired(check);
        stopsAtHalt(check);
        goesOnBehindAFault(check);
        oneByOneIsAsManyAtOnce(check);
        for (int n : NOT_SO_MANY) {
            check.throwsArgument("cycles of " + n, c -> c.cycles(n));
        }
        refusesWhenHaltedToo(check);
        takesOneAndThreeHundred(check);
        haltsInItsFirstAndLastCycle(check);
        letsNothingBehindAHaltHaveAnEffect(check);
        check.end();
    }

    private static void tellsHowManyRetired(Check check) {
        StageChip chip = Chips.with(Chips.jump(0, 0));
        check.same("1 cycle", chip.cycles(1), 0);
        check.same("4 more", chip.cycles(4), 0);
        check.same("the sixth", chip.cycles(1), 1);
        check.same("300 more", chip.cycles(300), 300);
        check.same("cycles in all", chip.count(Chips.CYCLES), 306);
    }

    private static void stopsAtHalt(Check check) {
        StageChip chip = Chips.with(Chips.setTo(1, 1), Chips.halt(), Chips.setTo(2, 2), Chips.store(1, 0, 0));
        check.same("until halted", chip.cycles(300), 1);
        check.same("counts", Chips.counts(chip), "7 1 0 0 0 6 0 0 1");
        String state = Chips.state(chip);
        check.same("halted", chip.cycles(300), 0);
        check.same("state when halted", Chips.state(chip), state);
        check.same("stages", Chips.stages(chip), ". . . . .");
        check.same("behind the halt", chip.register(2), 0);
        check.same("stored behind the halt", chip.peek(0), 0);
    }

    private static void goesOnBehindAFault(Check check) {
        StageChip chip = Chips.with(Chips.nop(), Chips.call());
        chip.handler(30);
        check.same("across a fault", chip.cycles(13), 2);
        check.same("retired", Chips.retired(chip), "30 0");
    }

    private static void oneByOneIsAsManyAtOnce(Check check) {
        StageChip many = Chips.busy();
        StageChip single = Chips.busy();
        int sum = 0;
        for (int i = 0; i < 90; i++) {
            sum += single.cycles(1);
        }
        check.same("retired", many.cycles(90), sum);
        check.same("state", Chips.state(many), Chips.state(single));
    }

    private static void refusesWhenHaltedToo(Check check) {
        StageChip chip = Chips.with(Chips.halt());
        chip.cycles(6);
        check.same("cycles(0)", Check.thrownBy(c -> c.cycles(0), chip), "IllegalArgumentException");
        check.same("cycles(301)", Check.thrownBy(c -> c.cycles(301), chip), "IllegalArgumentException");
    }

    private static void takesOneAndThreeHundred(Check check) {
        int[] allowed = {1, 2, 299, 300};
        for (int n : allowed) {
            check.takes("cycles of " + n, c -> c.cycles(n));
            StageChip chip = Chips.with(Chips.jump(0, 0));
            check.same("retired by " + n, chip.cycles(n), Math.max(0, n - 5));
            check.same("cycles of " + n, chip.count(Chips.CYCLES), n);
        }
    }

    /** Not halted before the last of them, halted by the first of them. */
    private static void haltsInItsFirstAndLastCycle(Check check) {
        StageChip chip = Chips.with(Chips.nop(), Chips.halt());
        check.same("up to the halt", chip.cycles(6), 1);
        check.same("halted", chip.count(Chips.HALTED), 0);
        check.same("HALT in WRITTEN", chip.stage(StageChip.WRITTEN), 1);
        check.same("the halt and 299 behind it", chip.cycles(300), 0);
        check.same("counts", Chips.counts(chip), "7 1 0 0 0 6 0 0 1");
        check.same("one more", chip.cycles(1), 0);
        check.same("cycles", chip.count(Chips.CYCLES), 7);
        check.same("pace", chip.pace(), 7f);
    }

    private static void letsNothingBehindAHaltHaveAnEffect(Check check) {
        int[][] behind = {Chips.store(1, 0, 4), Chips.setTo(1, 5), Chips.call(), Chips.load(1, 0, -1),
            Chips.of(Chips.DIV, 1, 1, 0), Chips.jump(1, -1), Chips.back(1, 0, -1), Chips.halt()};
        for (int[] instruction : behind) {
            StageChip chip = Chips.with(Chips.halt(), instruction, instruction);
            chip.set(1, 8);
            check.same("retired", chip.cycles(20), 0);
            check.same("register 1", chip.register(1), 8);
            check.same("word 4", chip.peek(4), 0);
            check.same("faults", chip.count(Chips.FAULTS), 0);
            check.same("cause", chip.count(Chips.CAUSE), 0);
            check.same("halted", chip.count(Chips.HALTED), 1);
            check.same("cycles", chip.count(Chips.CYCLES), 6);
            check.same("stages", Chips.stages(chip), ". . . . .");
        }
    }
}
