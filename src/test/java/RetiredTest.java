/** Promise 12. */
final class RetiredTest {
    public static void main(String[] args) {
        Check check = new Check();
        hasAsManyAsRetired(check);
        keepsTheLastSixteen(check);
        leavesOutHaltAndFaults(check);
        leavesOutWhatWasDropped(check);
        hasNoneAtFirst(check);
        isRefusedByHowManyThereAre(check);
        int[] none = {-1, 16, 17, Integer.MIN_VALUE, Integer.MAX_VALUE};
        for (int i : none) {
            check.throwsIndex("retired(" + i + ")", c -> c.retired(i));
        }
        check.end();
    }

    private static void hasAsManyAsRetired(Check check) {
        StageChip chip = new StageChip();
        chip.cycles(5);
        for (int kept = 0; kept < 16; kept++) {
            int behind = kept;
            check.same("entry " + kept, Check.thrownBy(c -> c.retired(behind), chip), "IndexOutOfBoundsException");
            chip.cycles(1);
            check.same("the oldest of " + (kept + 1), chip.retired(kept), 0);
            check.same("the latest of " + (kept + 1), chip.retired(0), kept);
        }
    }

    private static void keepsTheLastSixteen(Check check) {
        StageChip chip = new StageChip();
        chip.cycles(5 + 16);
        check.same("retired(15) of 16", chip.retired(15), 0);
        chip.cycles(1);
        check.same("retired(15) of 17", chip.retired(15), 1);
        chip.cycles(22);
        check.same("of 39", Chips.retired(chip), "38 37 36 35 34 33 32 31 30 29 28 27 26 25 24 23");
        check.same("retired(16)", Check.thrownBy(c -> c.retired(16), chip), "IndexOutOfBoundsException");
        chip.start(5);
        chip.cycles(6);
        check.same("behind a start", Chips.retired(chip), "5 38 37 36 35 34 33 32 31 30 29 28 27 26 25 24");
    }

    private static void leavesOutHaltAndFaults(Check check) {
        StageChip chip = Chips.with(Chips.nop(), Chips.call());
        Chips.putAt(chip, 20, Chips.setTo(1, 1), Chips.halt());
        chip.handler(20);
        chip.cycles(40);
        check.same("halted", chip.count(Chips.HALTED), 1);
        check.same("retired", Chips.retired(chip), "20 0");
    }

    private static void leavesOutWhatWasDropped(Check check) {
        StageChip chip = Chips.with(Chips.same(0, 0, 4), Chips.nop(), Chips.nop(), Chips.nop(), Chips.back(1, 0, 9));
        chip.cycles(11);
        check.same("retired", Chips.retired(chip), "4 0");
        chip.cycles(1);
        check.same("retired then", Chips.retired(chip), "9 4 0");
    }

    private static void hasNoneAtFirst(Check check) {
        StageChip chip = Chips.with(Chips.call());
        for (int cycle = 0; cycle < 12; cycle++) {
            String before = Insides.of(chip);
            for (int i = -1; i <= 16; i++) {
                int entry = i;
                check.same("retired(" + i + ")", Check.thrownBy(c -> c.retired(entry), chip),
                        "IndexOutOfBoundsException");
            }
            check.same("nothing changed", Insides.of(chip), before);
            chip.cycles(1);
        }
    }

    /** The first entry beyond those that there are, for 1 to 40 that were retired. */
    private static void isRefusedByHowManyThereAre(Check check) {
        StageChip chip = new StageChip();
        chip.cycles(5);
        for (int all = 1; all <= 40; all++) {
            chip.cycles(1);
            int kept = Math.min(16, all);
            String before = Insides.of(chip);
            check.same("retired(-1) of " + all, Check.thrownBy(c -> c.retired(-1), chip), "IndexOutOfBoundsException");
            check.same("the one beyond of " + all, Check.thrownBy(c -> c.retired(kept), chip),
                    "IndexOutOfBoundsException");
            for (int i = 0; i < kept; i++) {
                check.same("entry " + i + " of " + all, chip.retired(i), all - 1 - i);
            }
            check.same("nothing changed", Insides.of(chip), before);
        }
    }
}
