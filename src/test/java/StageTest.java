/** Promise 10: what is in the stages, cycle by cycle. */
final class StageTest {
    private static final int[] NO_STAGE = {-1, 5, 6, Integer.MIN_VALUE, Integer.MAX_VALUE};

    public static void main(String[] args) {
        Check check = new Check();
        oneStageFurtherEachCycle(check);
        waitsForALoad(check);
        waitsInLongWork(check);
        dropsWhatWasGuessedWrong(check);
        followsRightGuesses(check);
        emptiesAtAFaultAndAHalt(check);
        showsPlacesThatThereAreNot(check);
        isEmptyInANewOne(check);
        holdsMinusOneThatIsNotNone(check);
        wrapsBehindTheGreatestInt(check);
        fetchesNothingWhileFull(check);
        check.onlyTells("stage FETCHED", c -> c.stage(StageChip.FETCHED));
        check.onlyTells("stage WRITTEN", c -> c.stage(StageChip.WRITTEN));
        for (int which : NO_STAGE) {
            check.throwsIndex("stage " + which, c -> c.stage(which));
        }
        check.end();
    }

    private static void oneStageFurtherEachCycle(Check check) {
        check.trace("NOPs", new StageChip(), "0 . . . .", "1 0 . . .", "2 1 0 . .", "3 2 1 0 .", "4 3 2 1 0",
                "5 4 3 2 1", "6 5 4 3 2");
        StageChip chip = new StageChip();
        chip.cycles(5);
        check.same("FETCHED", chip.stage(StageChip.FETCHED), 4);
        check.same("WRITTEN", chip.stage(StageChip.WRITTEN), 0);
    }

    private static void waitsForALoad(Check check) {
        check.trace("load and use", Chips.with(Chips.load(1, 0, 0), Chips.addn(2, 1, 0)),
                "0 . . . .", "1 0 . . .", "2 1 0 . .", "3 2 1 0 .", "3 2 1 . 0", "4 3 2 1 .", "5 4 3 2 1");
        check.trace("load and use one later", Chips.with(Chips.load(1, 0, 0), Chips.nop(), Chips.addn(2, 1, 0)),
                "0 . . . .", "1 0 . . .", "2 1 0 . .", "3 2 1 0 .", "4 3 2 1 0", "5 4 3 2 1");
    }

    private static void waitsInLongWork(Check check) {
        check.trace("MUL", Chips.with(Chips.of(Chips.MUL, 1, 2, 3)),
                "0 . . . .", "1 0 . . .", "2 1 0 . .", "2 1 0 . .", "2 1 0 . .", "3 2 1 0 .", "4 3 2 1 0");
        check.trace("DIV behind a NOP", Chips.with(Chips.nop(), Chips.of(Chips.DIV, 1, 2, 3)),
                "0 . . . .", "1 0 . . .", "2 1 0 . .", "3 2 1 0 .", "3 2 1 . 0", "3 2 1 . .", "3 2 1 . .",
                "3 2 1 . .", "3 2 1 . .", "4 3 2 1 .", "5 4 3 2 1");
        check.trace("MUL that waits for a load", Chips.with(Chips.load(1, 0, 0), Chips.of(Chips.MUL, 2, 1, 1)),
                "0 . . . .", "1 0 . . .", "2 1 0 . .", "3 2 1 0 .", "3 2 1 . 0", "3 2 1 . .", "3 2 1 . .",
                "4 3 2 1 .");
    }

    private static void dropsWhatWasGuessedWrong(Check check) {
        check.trace("SAME that goes", Chips.with(Chips.same(0, 0, 5)),
                "0 . . . .", "1 0 . . .", "2 1 0 . .", "5 . . 0 .", "6 5 . . 0", "7 6 5 . .", "8 7 6 5 .");
        check.trace("BACK", Chips.with(Chips.back(0, 0, 9)),
                "0 . . . .", "1 0 . . .", "2 1 0 . .", "9 . . 0 .", "10 9 . . 0");
    }

    private static void followsRightGuesses(Check check) {
        check.trace("JUMP", Chips.with(Chips.jump(0, 5)), "0 . . . .", "5 0 . . .", "6 5 0 . .", "7 6 5 0 .");
        check.trace("OTHER that does not go", Chips.with(Chips.other(0, 0, 5)),
                "0 . . . .", "1 0 . . .", "2 1 0 . .", "3 2 1 0 .");
        check.trace("BACK to the next place", Chips.with(Chips.back(0, 0, 1)),
                "0 . . . .", "1 0 . . .", "2 1 0 . .", "3 2 1 0 .");
    }

    private static void emptiesAtAFaultAndAHalt(Check check) {
        StageChip chip = Chips.with(Chips.nop(), Chips.call());
        chip.handler(40);
        check.trace("CALL", chip, "0 . . . .", "1 0 . . .", "2 1 0 . .", "3 2 1 0 .", "4 3 2 1 0", "5 4 3 2 1",
                ". . . . .", "40 . . . .", "41 40 . . .");
        check.trace("HALT", Chips.with(Chips.nop(), Chips.halt()), "0 . . . .", "1 0 . . .", "2 1 0 . .",
                "3 2 1 0 .", "4 3 2 1 0", "5 4 3 2 1", ". . . . .", ". . . . .");
    }

    private static void showsPlacesThatThereAreNot(Check check) {
        StageChip chip = new StageChip();
        chip.start(63);
        check.trace("behind 63", chip, "63 . . . .", "64 63 . . .", "65 64 63 . .", "66 65 64 63 .",
                "67 66 65 64 63", "68 67 66 65 64", ". . . . .");
        check.trace("before 0", Chips.with(Chips.jump(0, -3)), "0 . . . .", "-3 0 . . .", "-2 -3 0 . .",
                ". -2 -3 0 .", "0 . -2 -3 0", "-3 0 . -2 -3", ". . . . .");
    }

    private static void isEmptyInANewOne(Check check) {
        StageChip chip = new StageChip();
        int[] all = {StageChip.FETCHED, StageChip.READ, StageChip.REACHED, StageChip.MEMORY, StageChip.WRITTEN};
        for (int i = 0; i < all.length; i++) {
            check.same("number of the stage", all[i], i);
            check.same("stage " + i, chip.stage(i), StageChip.NONE);
        }
        check.same("NONE", StageChip.NONE, -1);
    }

    /** What stands at -1 shows as NONE, but it is there: its fault comes. */
    private static void holdsMinusOneThatIsNotNone(Check check) {
        StageChip chip = Chips.with(Chips.jump(0, -1));
        chip.handler(30);
        for (int which = 0; which < 5; which++) {
            chip.cycles(which == 0 ? 2 : 1);
            check.same("-1 in stage " + which, chip.stage(which), -1);
        }
        check.same("faults before", chip.count(Chips.FAULTS), 0);
        chip.cycles(1);
        check.same("counts", Chips.counts(chip), "7 1 0 0 1 30 1 -1 0");
    }

    private static void wrapsBehindTheGreatestInt(Check check) {
        int last = Integer.MAX_VALUE;
        int first = Integer.MIN_VALUE;
        StageChip chip = Chips.with(Chips.back(0, 1, -1));
        chip.set(1, first);
        chip.cycles(3);
        check.trace("behind the greatest int", chip, last + " . . 0 .", first + " " + last + " . . 0",
                first + 1 + " " + first + " " + last + " . .");
        check.same("where", chip.count(Chips.WHERE), first + 2);
        chip.cycles(3);
        check.same("counts", Chips.counts(chip), "9 1 0 1 1 0 1 " + last + " 0");
    }

    /** While a DIV works, FETCHED and READ are full, so nothing is fetched and WHERE stays. */
    private static void fetchesNothingWhileFull(Check check) {
        StageChip chip = Chips.with(Chips.of(Chips.DIV, 1, 2, 2), Chips.nop(), Chips.jump(0, 30));
        chip.set(2, 1);
        chip.cycles(3);
        for (int i = 0; i < 6; i++) {
            check.same("stages", Chips.stages(chip), "2 1 0 . .");
            check.same("where", chip.count(Chips.WHERE), 32);
            check.same("waits", chip.count(Chips.WAITS), i);
            chip.cycles(1);
        }
        check.same("stages when it is done", Chips.stages(chip), "32 2 1 0 .");
        check.same("waits when it is done", chip.count(Chips.WAITS), 5);
    }
}
