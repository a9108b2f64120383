/** Promise 2. */
final class PutTest {
    private static final int[] NO_PLACE = {-1, 64, 65, Integer.MIN_VALUE, Integer.MAX_VALUE};
    private static final int[] NO_OPERATION = {-1, 20, Integer.MIN_VALUE, Integer.MAX_VALUE};
    private static final int[] NO_REGISTER = {-1, 16, Integer.MIN_VALUE, Integer.MAX_VALUE};
    private static final int[] NO_NUMBER = {-65, 64, Integer.MIN_VALUE, Integer.MAX_VALUE};

    public static void main(String[] args) {
        Check check = new Check();
        takesAllInBounds(check);
        isFetchedFromItsPlace(check);
        keepsEachRegisterNumber(check);
        keepsEachNumber(check);
        isReplacedByTheNext(check);
        leavesWhatIsInAStage(check);
        leavesALongWorkInAStage(check);
        leavesAGuessInAStage(check);
        refusesPlaces(check);
        refusesArguments(check);
        refusesThePlaceFirst(check);
        keepsTheOldOneWhenRefused(check);
        check.end();
    }

    private static void takesAllInBounds(Check check) {
        for (int operation = Chips.ADD; operation <= Chips.NOP; operation++) {
            int op = operation;
            check.takes("put of operation " + op + " at its least", c -> c.put(0, op, 0, 0, 0, -64));
            check.takes("put of operation " + op + " at its greatest", c -> c.put(63, op, 15, 15, 15, 63));
        }
    }

    private static void isFetchedFromItsPlace(Check check) {
        StageChip chip = new StageChip();
        for (int place = 0; place < 64; place++) {
            Chips.putAt(chip, place, Chips.setTo(1, 63 - 2 * place));
        }
        for (int place = 0; place < 64; place++) {
            chip.start(place);
            chip.cycles(6);
            check.same("register 1 by place " + place, chip.register(1), 63 - 2 * place);
        }
    }

    private static void keepsEachRegisterNumber(Check check) {
        for (int register = 1; register < 16; register++) {
            StageChip chip = Chips.with(Chips.setTo(register, 9));
            chip.cycles(6);
            for (int other = 0; other < 16; other++) {
                check.same("register " + other + " by d " + register, chip.register(other), other == register ? 9 : 0);
            }
        }
        for (int register = 0; register < 16; register++) {
            StageChip chip = Chips.with(Chips.store(register, 0, 5), Chips.addn(1, register, 0));
            for (int other = 1; other < 16; other++) {
                chip.set(other, 100 + other);
            }
            chip.cycles(7);
            int due = register == 0 ? 0 : 100 + register;
            check.same("word 5 by t " + register, chip.peek(5), due);
            check.same("register 1 by s " + register, chip.register(1), due);
        }
    }

    private static void keepsEachNumber(Check check) {
        StageChip chip = new StageChip();
        for (int n = -64; n <= 63; n++) {
            Chips.putAt(chip, 0, Chips.setTo(1, n));
            chip.start(0);
            chip.cycles(6);
            check.same("register 1 by n " + n, chip.register(1), n);
        }
    }

    private static void isReplacedByTheNext(Check check) {
        StageChip chip = Chips.with(Chips.setTo(1, 5));
        Chips.putAt(chip, 0, Chips.setTo(2, 6));
        chip.cycles(6);
        check.same("register 1, of the one that was", chip.register(1), 0);
        check.same("register 2, of the one that is", chip.register(2), 6);
    }

    private static void leavesWhatIsInAStage(Check check) {
        for (int inFlight = 1; inFlight <= 5; inFlight++) {
            StageChip chip = Chips.with(Chips.setTo(1, 5));
            chip.cycles(inFlight);
            Chips.putAt(chip, 0, Chips.setTo(1, 9));
            chip.cycles(6 - inFlight);
            check.same("register 1, put after " + inFlight + " cycles", chip.register(1), 5);
            chip.start(0);
            chip.cycles(6);
            check.same("register 1, fetched anew", chip.register(1), 9);
        }
    }

    private static void leavesALongWorkInAStage(Check check) {
        for (int before = 3; before <= 8; before++) {
            StageChip chip = Chips.with(Chips.of(Chips.DIV, 3, 1, 2));
            chip.set(1, 100);
            chip.set(2, 7);
            chip.cycles(before);
            Chips.putAt(chip, 0, Chips.nop());
            chip.cycles(11 - before);
            check.same("register 3, put after " + before + " cycles", chip.register(3), 14);
            check.same("waits, put after " + before + " cycles", chip.count(Chips.WAITS), 5);
        }
    }

    private static void leavesAGuessInAStage(Check check) {
        StageChip chip = Chips.with(Chips.jump(1, 20));
        chip.cycles(1);
        Chips.putAt(chip, 0, Chips.halt());
        check.trace("a JUMP that was replaced behind its fetch", chip, "20 0 . . .", "21 20 0 . .", "22 21 20 0 .");
        check.same("wrong guesses", chip.count(Chips.WRONG_GUESSES), 0);
    }

    private static void refusesPlaces(Check check) {
        for (int place : NO_PLACE) {
            check.throwsIndex("put at place " + place, c -> c.put(place, Chips.SET, 1, 0, 0, 1));
            check.throwsIndex("put at place " + place + " with all else wrong", c -> c.put(place, 20, -1, 16, 99, 64));
        }
    }

    private static void refusesArguments(Check check) {
        for (int operation : NO_OPERATION) {
            check.throwsArgument("put of operation " + operation, c -> c.put(7, operation, 1, 0, 0, 1));
        }
        for (int register : NO_REGISTER) {
            check.throwsArgument("put with d " + register, c -> c.put(7, Chips.SET, register, 0, 0, 1));
            check.throwsArgument("put with s " + register, c -> c.put(7, Chips.SET, 1, register, 0, 1));
            check.throwsArgument("put with t " + register, c -> c.put(7, Chips.SET, 1, 0, register, 1));
        }
        for (int number : NO_NUMBER) {
            check.throwsArgument("put with n " + number, c -> c.put(7, Chips.SET, 1, 0, 0, number));
        }
        for (int operation = Chips.ADD; operation <= Chips.NOP; operation++) {
            refusesOfAnyOperation(check, operation);
        }
    }

    /** Also where the operation has no use for what is not in its bounds. */
    private static void refusesOfAnyOperation(Check check, int operation) {
        String what = "put of operation " + operation + " with ";
        int[][] wrong = {{-1, 0, 0, 0}, {16, 0, 0, 0}, {0, -1, 0, 0}, {0, 16, 0, 0}, {0, 0, -1, 0}, {0, 0, 16, 0},
            {0, 0, 0, -65}, {0, 0, 0, 64}};
        for (int[] x : wrong) {
            for (int place = 0; place < 64; place += 63) {
                int at = place;
                check.throwsArgument(what + x[0] + " " + x[1] + " " + x[2] + " " + x[3] + " at " + at,
                        c -> c.put(at, operation, x[0], x[1], x[2], x[3]));
            }
        }
    }

    private static void refusesThePlaceFirst(Check check) {
        int[][] wrong = {{-1, 1, 1, 1, 1}, {20, 1, 1, 1, 1}, {0, -1, 1, 1, 1}, {0, 16, 1, 1, 1}, {0, 1, -1, 1, 1},
            {0, 1, 16, 1, 1}, {0, 1, 1, -1, 1}, {0, 1, 1, 16, 1}, {0, 1, 1, 1, -65}, {0, 1, 1, 1, 64}};
        for (int[] x : wrong) {
            for (int place : NO_PLACE) {
                check.throwsIndex("put at " + place + " of " + x[0] + " " + x[1] + " " + x[2] + " " + x[3] + " " + x[4],
                        c -> c.put(place, x[0], x[1], x[2], x[3], x[4]));
            }
        }
    }

    private static void keepsTheOldOneWhenRefused(Check check) {
        int[][] wrong = {{20, 1, 1, 1, 1}, {Chips.SET, 16, 1, 1, 1}, {Chips.SET, 1, 16, 1, 1},
            {Chips.SET, 1, 1, 16, 1}, {Chips.SET, 1, 1, 1, 64}};
        for (int[] x : wrong) {
            StageChip chip = Chips.with(Chips.setTo(1, 5));
            check.same("put", Check.thrownBy(c -> c.put(0, x[0], x[1], x[2], x[3], x[4]), chip),
                    "IllegalArgumentException");
            chip.cycles(6);
            check.same("register 1, of the one that stays", chip.register(1), 5);
        }
    }
}
