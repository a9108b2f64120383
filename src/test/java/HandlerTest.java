/** Promise 8. */
final class HandlerTest {
    private static final int[] NO_PLACE = {-1, 64, Integer.MIN_VALUE, Integer.MAX_VALUE};

    public static void main(String[] args) {
        Check check = new Check();
        tellsWhatItWas(check);
        isWhereAFaultGoes(check);
        for (int place : NO_PLACE) {
            check.throwsIndex("handler at " + place, c -> c.handler(place));
        }
        check.end();
    }

    private static void tellsWhatItWas(Check check) {
        StageChip chip = new StageChip();
        check.same("first", chip.handler(63), 0);
        check.same("second", chip.handler(7), 63);
        chip.start(3);
        check.same("third, behind a start", chip.handler(0), 7);
        check.same("refused", Check.thrownBy(c -> c.handler(64), chip), "IndexOutOfBoundsException");
        check.same("fourth", chip.handler(0), 0);
        check.same("counts", Chips.counts(chip), "0 0 0 0 0 3 0 0 0");
    }

    /** The handler counts that stands when the fault leaves WRITTEN. */
    private static void isWhereAFaultGoes(Check check) {
        StageChip chip = Chips.with(Chips.nop(), Chips.call());
        chip.handler(20);
        chip.cycles(6);
        chip.handler(30);
        chip.cycles(1);
        check.same("where", chip.count(Chips.WHERE), 30);
        check.same("handler", chip.handler(1), 30);
        check.trace("in the handler", chip, "30 . . . .", "31 30 . . .");
    }
}
