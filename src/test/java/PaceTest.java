/** Promise 14. */
final class PaceTest {
    public static void main(String[] args) {
        Check check = new Check();
        StageChip chip = Chips.with(Chips.jump(0, 0));
        check.same("new", chip.pace(), 0f);
        chip.cycles(5);
        check.same("none retired", chip.pace(), 0f);
        chip.cycles(1);
        check.same("6 by 1", chip.pace(), 6f);
        chip.cycles(1);
        check.same("7 by 2", chip.pace(), 3.5f);
        chip.cycles(1);
        check.same("8 by 3", chip.pace(), 8f / 3f);
        chip.cycles(300);
        check.same("308 by 303", chip.pace(), 308f / 303f);
        chip.start(0);
        chip.cycles(2);
        check.same("310 by 303", chip.pace(), 310f / 303f);
        isZeroIfNoneWasRetired(check);
        staysWhenHalted(check);
        check.onlyTells("pace", StageChip::pace);
        check.end();
    }

    private static void isZeroIfNoneWasRetired(Check check) {
        StageChip faulty = Chips.with(Chips.call());
        faulty.cycles(300);
        check.same("of faults alone", faulty.pace(), 0f);
        StageChip halting = Chips.with(Chips.halt());
        halting.cycles(300);
        check.same("of a HALT alone", halting.pace(), 0f);
        check.same("its cycles", halting.count(Chips.CYCLES), 6);
    }

    private static void staysWhenHalted(Check check) {
        StageChip chip = Chips.with(Chips.nop(), Chips.nop(), Chips.nop(), Chips.halt());
        chip.cycles(9);
        check.same("9 by 3", chip.pace(), 3f);
        chip.cycles(300);
        check.same("halted", chip.pace(), 3f);
    }
}
