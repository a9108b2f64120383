/** Promise 8. */
final class HandlerTest {
    private static final int[] NO_PLACE = {-1, 64, 65, Integer.MIN_VALUE, Integer.MAX_VALUE};

    public static void main(String[] args) {
        Check check = new Check();
        tellsWhatItWas(check);
        isWhereAFaultGoes(check);
        isEachPlace(check);
        mayFaultItself(check);
        isTheLastPlace(check);
        check.takes("handler at 0", c -> c.handler(0));
        check.takes("handler at 63", c -> c.handler(63));
        for (int place : NO_PLACE) {
            check.throwsIndex("handler at " + place, c -> c.handler(place));
        }
        check.end();
    }

    private static void tellsWhatItWas(Check check) {
        StageChip chip = new StageChip();
        check.same("first", chip.handler(63), 0);
        check.same("second", chip.handler(7), 63);
        chip.start(3);
        check.same("third, behind a start", chip.handler(0), 7);
        check.same("refused", Check.thrownBy(c -> c.handler(64), chip), "IndexOutOfBoundsException");
        check.same("fourth", chip.handler(0), 0);
        check.same("counts", Chips.counts(chip), "0 0 0 0 0 3 0 0 0");
    }

    /** The handler counts that stands when the fault leaves WRITTEN. */
    private static void isWhereAFaultGoes(Check check) {
        StageChip chip = Chips.with(Chips.nop(), Chips.call());
        chip.handler(20);
        chip.cycles(6);
        chip.handler(30);
        chip.cycles(1);
        check.same("where", chip.count(Chips.WHERE), 30);
        check.same("handler", chip.handler(1), 30);
        check.trace("in the handler", chip, "30 . . . .", "31 30 . . .");
    }

    private static void isEachPlace(Check check) {
        for (int place = 0; place < 64; place++) {
            StageChip chip = Chips.with(Chips.call());
            chip.handler(place);
            chip.cycles(6);
            check.same("where", chip.count(Chips.WHERE), place);
            check.same("stages", Chips.stages(chip), ". . . . .");
            chip.cycles(1);
            check.same("stages then", Chips.stages(chip), place + " . . . .");
        }
    }

    /** Six cycles from a fetch to the fault, again and again. */
    private static void mayFaultItself(Check check) {
        StageChip chip = Chips.with(Chips.call());
        chip.handler(0);
        for (int faults = 1; faults <= 20; faults++) {
            chip.cycles(6);
            check.same("counts", Chips.counts(chip), 6 * faults + " 0 0 0 " + faults + " 0 2 0 0");
        }
        check.same("pace", chip.pace(), 0f);
    }

    /** Behind the handler at 63 there is no place: the next fault is that, and goes to 63 again. */
    private static void isTheLastPlace(Check check) {
        StageChip chip = Chips.with(Chips.call());
        chip.handler(63);
        chip.cycles(6);
        check.same("counts at the first fault", Chips.counts(chip), "6 0 0 0 1 63 2 0 0");
        chip.cycles(7);
        check.same("counts at the second", Chips.counts(chip), "13 1 0 0 2 63 1 64 0");
        check.same("retired", Chips.retired(chip), "63");
    }
}
