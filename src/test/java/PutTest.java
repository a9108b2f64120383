/** Promise 2. */
final class PutTest {
    private static final int[] NO_PLACE = {-1, 64, 65, Integer.MIN_VALUE, Integer.MAX_VALUE};
    private static final int[] NO_OPERATION = {-1, 20, Integer.MIN_VALUE, Integer.MAX_VALUE};
    private static final int[] NO_REGISTER = {-1, 16, Integer.MIN_VALUE, Integer.MAX_VALUE};
    private static final int[] NO_NUMBER = {-65, 64, Integer.MIN_VALUE, Integer.MAX_VALUE};

    public static void main(String[] args) {
        Check check = new Check();
        takesAllInBounds(check);
        isFetchedFromItsPlace(check);
        leavesWhatIsInAStage(check);
        refusesPlaces(check);
        refusesArguments(check);
        check.end();
    }

    private static void takesAllInBounds(Check check) {
        for (int operation = Chips.ADD; operation <= Chips.NOP; operation++) {
            int op = operation;
            check.same("put of operation " + op + " at its least", Check.thrownBy(
                    c -> c.put(0, op, 0, 0, 0, -64), new StageChip()), "nothing");
            check.same("put of operation " + op + " at its greatest", Check.thrownBy(
                    c -> c.put(63, op, 15, 15, 15, 63), new StageChip()), "nothing");
        }
    }

    private static void isFetchedFromItsPlace(Check check) {
        StageChip chip = Chips.with(Chips.setTo(1, -64), Chips.setTo(15, 63), Chips.of(Chips.SUB, 2, 15, 1));
        Chips.putAt(chip, 63, Chips.setTo(3, 1));
        chip.cycles(8);
        check.same("register 1", chip.register(1), -64);
        check.same("register 15", chip.register(15), 63);
        check.same("register 2", chip.register(2), 127);
        chip.start(63);
        chip.cycles(6);
        check.same("register 3", chip.register(3), 1);
    }

    private static void leavesWhatIsInAStage(Check check) {
        for (int inFlight = 1; inFlight <= 5; inFlight++) {
            StageChip chip = Chips.with(Chips.setTo(1, 5));
            chip.cycles(inFlight);
            Chips.putAt(chip, 0, Chips.setTo(1, 9));
            chip.cycles(6 - inFlight);
            check.same("register 1, put after " + inFlight + " cycles", chip.register(1), 5);
            chip.start(0);
            chip.cycles(6);
            check.same("register 1, fetched anew", chip.register(1), 9);
        }
    }

    private static void refusesPlaces(Check check) {
        for (int place : NO_PLACE) {
            check.throwsIndex("put at place " + place, c -> c.put(place, Chips.SET, 1, 0, 0, 1));
            check.throwsIndex("put at place " + place + " with all else wrong", c -> c.put(place, 20, -1, 16, 99, 64));
        }
    }

    private static void refusesArguments(Check check) {
        for (int operation : NO_OPERATION) {
            check.throwsArgument("put of operation " + operation, c -> c.put(7, operation, 1, 0, 0, 1));
        }
        for (int register : NO_REGISTER) {
            check.throwsArgument("put with d " + register, c -> c.put(7, Chips.SET, register, 0, 0, 1));
            check.throwsArgument("put with s " + register, c -> c.put(7, Chips.SET, 1, register, 0, 1));
            check.throwsArgument("put with t " + register, c -> c.put(7, Chips.SET, 1, 0, register, 1));
        }
        for (int number : NO_NUMBER) {
            check.throwsArgument("put with n " + number, c -> c.put(7, Chips.SET, 1, 0, 0, number));
        }
    }
}
