/** The examples of README.md answer what it says. */
final class UseTest {
    public static void main(String[] args) {
        Check check = new Check();
        reckonsAndHalts(check);
        goesOnInTheHandler(check);
        check.end();
    }

    private static void reckonsAndHalts(Check check) {
        StageChip chip = new StageChip();
        chip.put(0, 10, 1, 0, 0, 5);
        chip.put(1, 9, 2, 1, 0, 3);
        chip.put(2, 12, 0, 0, 2, 7);
        chip.put(3, 18, 0, 0, 0, 0);
        check.same("retired", chip.cycles(20), 3);
        check.same("word 7", chip.peek(7), 8);
        check.same("register 2", chip.register(2), 8);
        check.same("the latest", chip.retired(0), 2);
        check.same("cycles", chip.count(0), 9);
        check.same("pace", chip.pace(), 3f);
    }

    private static void goesOnInTheHandler(Check check) {
        StageChip chip = new StageChip();
        chip.put(0, 8, 1, 2, 3, 0);
        chip.put(40, 18, 0, 0, 0, 0);
        check.same("handler that was", chip.handler(40), 0);
        check.same("retired", chip.cycles(11), 0);
        check.same("cause", chip.count(6), 4);
        check.same("return", chip.count(7), 0);
        check.same("stage", chip.stage(StageChip.FETCHED), StageChip.NONE);
        chip.cycles(1);
        check.same("stage then", chip.stage(StageChip.FETCHED), 40);
        chip.cycles(5);
        check.same("halted", chip.count(8), 1);
        chip.set(3, 2);
        chip.start(0);
        check.same("halted no more", chip.count(8), 0);
        check.same("without a fault", chip.cycles(11), 1);
    }
}
