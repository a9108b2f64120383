/** Promises 5 and 6. */
final class RegisterTest {
    private static final int[] NO_REGISTER = {-1, 16, 17, Integer.MIN_VALUE, Integer.MAX_VALUE};

    public static void main(String[] args) {
        Check check = new Check();
        keepsEachRegister(check);
        setIsAtOnce(check);
        setGivesWayToWhatRetiresLater(check);
        showsWhatWasRetired(check);
        zeroStaysZero(check);
        zeroStaysZeroByEachOperation(check);
        holdsAnyInt(check);
        setCountsUntilTheLastCycleOfWork(check);
        setCanMakeAndUnmakeAFault(check);
        setCountsForAStoreUntilItHasWorked(check);
        check.takes("set of register 1", c -> c.set(1, 5));
        check.takes("set of register 15", c -> c.set(15, 5));
        check.onlyTells("register 0", c -> c.register(0));
        check.onlyTells("register 15", c -> c.register(15));
        for (int register : NO_REGISTER) {
            check.throwsIndex("set of register " + register, c -> c.set(register, 5));
            check.throwsIndex("register " + register, c -> c.register(register));
        }
        check.throwsIndex("set of register 0", c -> c.set(0, 5));
        check.throwsIndex("set of register 0 to 0", c -> c.set(0, 0));
        check.end();
    }

    private static void keepsEachRegister(Check check) {
        StageChip chip = new StageChip();
        for (int i = 1; i < 16; i++) {
            check.same("first set of " + i, chip.set(i, 100 + i), 0);
        }
        check.same("register 0", chip.register(0), 0);
        for (int i = 1; i < 16; i++) {
            check.same("register " + i, chip.register(i), 100 + i);
            check.same("second set of " + i, chip.set(i, Integer.MAX_VALUE - i), 100 + i);
            check.same("register again " + i, chip.register(i), Integer.MAX_VALUE - i);
        }
    }

    /** ADDN gets its value in the fourth cycle; a set before that counts, one behind it comes too late. */
    private static void setIsAtOnce(Check check) {
        for (int before = 1; before <= 5; before++) {
            StageChip chip = Chips.with(Chips.addn(2, 1, 1));
            chip.cycles(before);
            chip.set(1, 50);
            chip.cycles(6 - before);
            check.same("register 2, set after " + before + " cycles", chip.register(2), before < 4 ? 51 : 1);
        }
    }

    private static void setGivesWayToWhatRetiresLater(Check check) {
        StageChip chip = Chips.with(Chips.setTo(1, 5), Chips.addn(2, 1, 0));
        chip.cycles(4);
        chip.set(1, 50);
        check.same("register 1 at once", chip.register(1), 50);
        chip.cycles(1);
        check.same("register 1 before it retires", chip.register(1), 50);
        chip.cycles(2);
        check.same("register 1 when it has retired", chip.register(1), 5);
        check.same("register 2, handed on from it", chip.register(2), 5);
    }

    private static void showsWhatWasRetired(Check check) {
        StageChip chip = Chips.with(Chips.setTo(1, 5), Chips.addn(1, 1, 1), Chips.addn(1, 1, 1));
        chip.cycles(5);
        check.same("register 1 after 5 cycles", chip.register(1), 0);
        chip.cycles(1);
        check.same("register 1 after 6 cycles", chip.register(1), 5);
        chip.cycles(1);
        check.same("register 1 after 7 cycles", chip.register(1), 6);
        chip.cycles(1);
        check.same("register 1 after 8 cycles", chip.register(1), 7);
    }

    private static void zeroStaysZero(Check check) {
        StageChip chip = Chips.with(Chips.setTo(0, 5), Chips.addn(1, 0, 1), Chips.load(0, 0, 3), Chips.addn(2, 0, 1),
                Chips.jump(0, 1), Chips.addn(3, 0, 1));
        chip.poke(3, 70);
        chip.cycles(11);
        check.same("registers", Chips.registers(chip), "0 1 1 1 0 0 0 0 0 0 0 0 0 0 0 0");
        check.same("waits", chip.count(Chips.WAITS), 0);
    }

    /** With d 0 an operation writes nothing, hands nothing on and makes none wait; register 3 tells what s was. */
    private static void zeroStaysZeroByEachOperation(Check check) {
        for (int operation = Chips.ADD; operation <= Chips.BACK; operation++) {
            StageChip chip = new StageChip();
            chip.put(20, operation, 0, 1, 2, 1);
            Chips.putAt(chip, 21, Chips.addn(3, 0, 50), Chips.addn(4, 0, 51), Chips.addn(5, 0, 52));
            chip.set(1, 20);
            chip.set(2, 20);
            chip.poke(21, 7);
            chip.start(20);
            chip.cycles(14);
            String what = " behind operation " + operation;
            check.same("register 0" + what, chip.register(0), 0);
            check.same("register 3" + what, chip.register(3), 50);
            check.same("register 4" + what, chip.register(4), 51);
            check.same("register 5" + what, chip.register(5), 52);
            int waits = operation == Chips.MUL ? 2 : operation == Chips.DIV ? 5 : 0;
            check.same("waits" + what, chip.count(Chips.WAITS), waits);
        }
    }

    private static void holdsAnyInt(Check check) {
        int[] values = {Integer.MIN_VALUE, -1, 0, 1, Integer.MAX_VALUE};
        for (int register = 1; register < 16; register += 14) {
            StageChip chip = new StageChip();
            int was = 0;
            for (int value : values) {
                check.same("set of " + register + " to " + value, chip.set(register, value), was);
                check.same("register " + register, chip.register(register), value);
                was = value;
            }
        }
    }

    /** A MUL gets its value in the sixth cycle: a set of s before that counts, one behind it comes too late. */
    private static void setCountsUntilTheLastCycleOfWork(Check check) {
        for (int before = 1; before <= 7; before++) {
            StageChip chip = Chips.with(Chips.of(Chips.MUL, 3, 1, 2));
            chip.set(1, 4);
            chip.set(2, 5);
            chip.cycles(before);
            chip.set(1, 6);
            chip.cycles(8 - before);
            check.same("register 3, set after " + before + " cycles", chip.register(3), before < 6 ? 30 : 20);
        }
    }

    /** A DIV looks at t in the ninth cycle, its last one. */
    private static void setCanMakeAndUnmakeAFault(Check check) {
        for (int before = 1; before <= 10; before++) {
            check.same("cause, t made 0 after " + before, causeOfDivision(before, 5, 0), before < 9 ? 4 : 0);
            check.same("cause, t made 5 after " + before, causeOfDivision(before, 0, 5), before < 9 ? 0 : 4);
        }
    }

    private static int causeOfDivision(int before, int first, int then) {
        StageChip chip = Chips.with(Chips.of(Chips.DIV, 3, 1, 2));
        chip.set(2, first);
        chip.cycles(before);
        chip.set(2, then);
        chip.cycles(11 - before);
        return chip.count(Chips.CAUSE);
    }

    /** A STORE gets its address and what it stores in the fourth cycle, one before it stores. */
    private static void setCountsForAStoreUntilItHasWorked(Check check) {
        for (int before = 1; before <= 5; before++) {
            StageChip chip = Chips.with(Chips.store(1, 2, 3));
            chip.set(1, 70);
            chip.set(2, 10);
            chip.cycles(before);
            chip.set(1, 71);
            chip.set(2, 20);
            chip.cycles(6 - before);
            check.same("word 13, sets after " + before + " cycles", chip.peek(13), before < 4 ? 0 : 70);
            check.same("word 23, sets after " + before + " cycles", chip.peek(23), before < 4 ? 71 : 0);
        }
    }
}
