/** Promises 5 and 6. */
final class RegisterTest {
    private static final int[] NO_REGISTER = {-1, 16, 17, Integer.MIN_VALUE, Integer.MAX_VALUE};

    public static void main(String[] args) {
        Check check = new Check();
        keepsEachRegister(check);
        setIsAtOnce(check);
        setGivesWayToWhatRetiresLater(check);
        showsWhatWasRetired(check);
        zeroStaysZero(check);
        for (int register : NO_REGISTER) {
            check.throwsIndex("set of register " + register, c -> c.set(register, 5));
            check.throwsIndex("register " + register, c -> c.register(register));
        }
        check.throwsIndex("set of register 0", c -> c.set(0, 5));
        check.throwsIndex("set of register 0 to 0", c -> c.set(0, 0));
        check.end();
    }

    private static void keepsEachRegister(Check check) {
        StageChip chip = new StageChip();
        for (int i = 1; i < 16; i++) {
            check.same("first set of " + i, chip.set(i, 100 + i), 0);
        }
        check.same("register 0", chip.register(0), 0);
        for (int i = 1; i < 16; i++) {
            check.same("register " + i, chip.register(i), 100 + i);
            check.same("second set of " + i, chip.set(i, Integer.MAX_VALUE - i), 100 + i);
            check.same("register again " + i, chip.register(i), Integer.MAX_VALUE - i);
        }
    }

    /** ADDN gets its value in the fourth cycle; a set before that counts, one behind it comes too late. */
    private static void setIsAtOnce(Check check) {
        for (int before = 1; before <= 5; before++) {
            StageChip chip = Chips.with(Chips.addn(2, 1, 1));
            chip.cycles(before);
            chip.set(1, 50);
            chip.cycles(6 - before);
            check.same("register 2, set after " + before + " cycles", chip.register(2), before < 4 ? 51 : 1);
        }
    }

    private static void setGivesWayToWhatRetiresLater(Check check) {
        StageChip chip = Chips.with(Chips.setTo(1, 5), Chips.addn(2, 1, 0));
        chip.cycles(4);
        chip.set(1, 50);
        check.same("register 1 at once", chip.register(1), 50);
        chip.cycles(1);
        check.same("register 1 before it retires", chip.register(1), 50);
        chip.cycles(2);
        check.same("register 1 when it has retired", chip.register(1), 5);
        check.same("register 2, handed on from it", chip.register(2), 5);
    }

    private static void showsWhatWasRetired(Check check) {
        StageChip chip = Chips.with(Chips.setTo(1, 5), Chips.addn(1, 1, 1), Chips.addn(1, 1, 1));
        chip.cycles(5);
        check.same("register 1 after 5 cycles", chip.register(1), 0);
        chip.cycles(1);
        check.same("register 1 after 6 cycles", chip.register(1), 5);
        chip.cycles(1);
        check.same("register 1 after 7 cycles", chip.register(1), 6);
        chip.cycles(1);
        check.same("register 1 after 8 cycles", chip.register(1), 7);
    }

    private static void zeroStaysZero(Check check) {
        StageChip chip = Chips.with(Chips.setTo(0, 5), Chips.addn(1, 0, 1), Chips.load(0, 0, 3), Chips.addn(2, 0, 1),
                Chips.jump(0, 1), Chips.addn(3, 0, 1));
        chip.poke(3, 70);
        chip.cycles(11);
        check.same("registers", Chips.registers(chip), "0 1 1 1 0 0 0 0 0 0 0 0 0 0 0 0");
        check.same("waits", chip.count(Chips.WAITS), 0);
    }
}
