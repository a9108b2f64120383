/** Promise 7. */
final class StartTest {
    private static final int[] NO_PLACE = {-1, 64, 65, Integer.MIN_VALUE, Integer.MAX_VALUE};

    public static void main(String[] args) {
        Check check = new Check();
        emptiesTheStagesAlone(check);
        wakesAHaltedOne(check);
        dropsAFaultOnItsWay(check);
        beginsAMultiplicationAnew(check);
        takesEachPlaceInEachState(check);
        leavesTheHandler(check);
        for (int place : NO_PLACE) {
            check.throwsIndex("start at " + place, c -> c.start(place));
        }
        staysHaltedWhenRefused(check);
        check.end();
    }

    private static void emptiesTheStagesAlone(Check check) {
        StageChip chip = Chips.busy();
        String registers = Chips.registers(chip);
        String data = Chips.data(chip);
        String counters = Chips.counters(chip);
        String retired = Chips.retired(chip);
        String counts = Chips.counts(chip).replace(" " + chip.count(Chips.WHERE) + " ", " 63 ");
        chip.start(63);
        check.same("stages", Chips.stages(chip), ". . . . .");
        check.same("registers", Chips.registers(chip), registers);
        check.same("data", Chips.data(chip), data);
        check.same("counters", Chips.counters(chip), counters);
        check.same("retired", Chips.retired(chip), retired);
        check.same("counts but WHERE", Chips.counts(chip), counts);
        check.same("handler", chip.handler(0), 40);
        check.trace("started", chip, "63 . . . .", "64 63 . . .");
    }

    private static void wakesAHaltedOne(Check check) {
        StageChip chip = Chips.with(Chips.halt(), Chips.setTo(1, 3));
        chip.cycles(6);
        check.same("halted", chip.count(Chips.HALTED), 1);
        chip.start(1);
        check.same("halted no more", chip.count(Chips.HALTED), 0);
        check.same("retired", chip.cycles(6), 1);
        check.same("register 1", chip.register(1), 3);
        check.same("cycles in all", chip.count(Chips.CYCLES), 12);
    }

    private static void dropsAFaultOnItsWay(Check check) {
        StageChip chip = Chips.with(Chips.call());
        chip.cycles(5);
        chip.start(20);
        check.same("retired", chip.cycles(8), 3);
        check.same("cause", chip.count(Chips.CAUSE), 0);
        check.same("where", chip.count(Chips.WHERE), 28);
    }

    private static void beginsAMultiplicationAnew(Check check) {
        StageChip chip = Chips.with(Chips.of(Chips.MUL, 1, 2, 3));
        chip.cycles(5);
        check.same("waits", chip.count(Chips.WAITS), 2);
        chip.start(0);
        check.same("not yet", chip.cycles(7), 0);
        check.same("waits in all", chip.count(Chips.WAITS), 4);
        check.same("then", chip.cycles(1), 1);
    }

    private static void staysHaltedWhenRefused(Check check) {
        StageChip chip = Chips.with(Chips.halt());
        chip.cycles(6);
        check.same("start at 64", Check.thrownBy(c -> c.start(64), chip), "IndexOutOfBoundsException");
        check.same("halted", chip.count(Chips.HALTED), 1);
    }

    private static void takesEachPlaceInEachState(Check check) {
        for (int place = 0; place < 64; place++) {
            for (StageChip chip : Chips.inEachState()) {
                startsAt(check, chip, place);
            }
        }
    }

    private static void startsAt(Check check, StageChip chip, int place) {
        String registers = Chips.registers(chip);
        String data = Chips.data(chip);
        int cycles = chip.count(Chips.CYCLES);
        chip.start(place);
        check.same("stages", Chips.stages(chip), ". . . . .");
        check.same("where", chip.count(Chips.WHERE), place);
        check.same("halted", chip.count(Chips.HALTED), 0);
        check.same("cycles", chip.count(Chips.CYCLES), cycles);
        check.same("retired by the first cycle", chip.cycles(1), 0);
        check.same("stages then", Chips.stages(chip), place + " . . . .");
        check.same("registers", Chips.registers(chip), registers);
        check.same("data", Chips.data(chip), data);
    }

    private static void leavesTheHandler(Check check) {
        for (StageChip chip : Chips.inEachState()) {
            chip.handler(33);
            chip.start(0);
            check.same("handler", chip.handler(1), 33);
        }
    }
}
