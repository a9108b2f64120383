/** The four faults: when they come, and that nothing behind them has had an effect. */
final class FaultTest {
    private static final int LEAST = Integer.MIN_VALUE, GREATEST = Integer.MAX_VALUE;

    public static void main(String[] args) {
        Check check = new Check();
        comeForTheirReasons(check);
        comeAtTheEdgesOfTheData(check);
        letNothingBehindHaveAnEffect(check);
        writeAndStoreNothing(check);
        doNotMakeWaitForALoad(check);
        giveWayToThoseAhead(check);
        doNotComeWhenGuessedWrong(check);
        standAtAnyPlace(check);
        divideForSixCycles(check);
        comeAtTheEdgesOfThePlaces(check);
        emptyAllStages(check);
        keepTheHaltBehindThemOff(check);
        comeWithAnyDivisorButZeroNever(check);
        areThoseOfANop(check);
        leaveWhatIsBehindUntilTheyCome(check);
        handNothingOn(check);
        check.end();
    }

    private static void comeForTheirReasons(Check check) {
        check.same("a place that there is not", causeOf(Chips.jump(1, -1), 0), 1);
        check.same("CALL", causeOf(Chips.call(), 0), 2);
        check.same("DIV by 0", causeOf(Chips.of(Chips.DIV, 1, 2, 0), 0), 4);
        check.same("DIV of 0 by 0", causeOf(Chips.of(Chips.DIV, 1, 0, 0), 0), 4);
        check.same("DIV by 1", causeOf(Chips.of(Chips.DIV, 1, 2, 2), 1), 0);
    }

    private static void comeAtTheEdgesOfTheData(Check check) {
        int[][] rows = {{0, -1, 3}, {0, 0, 0}, {0, 31, 0}, {0, 32, 3}, {31, 0, 0}, {31, 1, 3}, {-1, 0, 3}, {-1, 1, 0},
            {GREATEST, 63, 3}, {LEAST, -64, 3}, {LEAST, 0, 3}, {GREATEST, 0, 3}, {95, -64, 0}, {96, -64, 3}};
        for (int[] row : rows) {
            check.same("LOAD at " + row[0] + " + " + row[1], causeOf(Chips.load(1, 2, row[1]), row[0]), row[2]);
            check.same("STORE at " + row[0] + " + " + row[1], causeOf(Chips.store(1, 2, row[1]), row[0]), row[2]);
        }
    }

    /** The cause after an instruction at 0 with register 2 as told. */
    private static int causeOf(int[] instruction, int register2) {
        StageChip chip = Chips.with(instruction, Chips.halt());
        chip.handler(20);
        chip.set(2, register2);
        chip.cycles(11);
        return chip.count(Chips.CAUSE);
    }

    private static void letNothingBehindHaveAnEffect(Check check) {
        int[][] faulty = {Chips.call(), Chips.load(5, 0, -1), Chips.store(5, 0, 32), Chips.of(Chips.DIV, 5, 1, 0)};
        for (int[] instruction : faulty) {
            StageChip chip = Chips.with(Chips.setTo(1, 3), Chips.store(1, 0, 7), instruction, Chips.store(1, 0, 8),
                    Chips.setTo(2, 9), Chips.addn(1, 1, 1));
            Chips.putAt(chip, 40, Chips.halt());
            chip.handler(40);
            check.same("retired before operation " + instruction[0], chip.cycles(60), 2);
            check.same("ahead", chip.peek(7), 3);
            check.same("stored behind", chip.peek(8), 0);
            check.same("registers", Chips.registers(chip), "0 3 0 0 0 0 0 0 0 0 0 0 0 0 0 0");
            check.same("return", chip.count(Chips.RETURN), 2);
            check.same("faults", chip.count(Chips.FAULTS), 1);
        }
    }

    private static void writeAndStoreNothing(Check check) {
        int[][] faulty = {Chips.load(1, 0, -64), Chips.store(1, 0, 32), Chips.store(1, 0, -1),
            Chips.of(Chips.DIV, 1, 1, 0), Chips.of(Chips.CALL, 1, 1, 1)};
        for (int[] instruction : faulty) {
            StageChip chip = Chips.with(instruction, Chips.addn(3, 1, 0));
            Chips.putAt(chip, 40, Chips.halt());
            chip.handler(40);
            chip.set(1, 71);
            for (int word = 0; word < 32; word++) {
                chip.poke(word, 500 + word);
            }
            String data = Chips.data(chip);
            chip.cycles(30);
            check.same("register 1 behind operation " + instruction[0], chip.register(1), 71);
            check.same("register 3 behind operation " + instruction[0], chip.register(3), 0);
            check.same("data behind operation " + instruction[0], Chips.data(chip), data);
        }
    }

    /** What comes behind works with the register as it is, and its counter learns from that. */
    private static void doNotMakeWaitForALoad(Check check) {
        StageChip chip = Chips.with(Chips.load(1, 0, -1), Chips.same(1, 2, 9));
        chip.set(1, 71);
        chip.set(2, 71);
        chip.cycles(5);
        check.same("waits", chip.count(Chips.WAITS), 0);
        check.same("counter 1", chip.counter(1), 2);
        check.same("stages", Chips.stages(chip), "10 . . 1 0");
        chip.cycles(1);
        check.same("counts", Chips.counts(chip), "6 0 0 1 1 0 3 0 0");
    }

    private static void giveWayToThoseAhead(Check check) {
        StageChip chip = Chips.with(Chips.load(1, 0, -1), Chips.call(), Chips.of(Chips.DIV, 1, 1, 0));
        Chips.putAt(chip, 30, Chips.jump(0, 0));
        chip.handler(30);
        chip.cycles(40);
        check.same("cause", chip.count(Chips.CAUSE), 3);
        check.same("faults", chip.count(Chips.FAULTS), 1);
        StageChip halting = Chips.with(Chips.halt(), Chips.call());
        halting.cycles(40);
        check.same("counts of a halted one", Chips.counts(halting), "6 0 0 0 0 5 0 0 1");
    }

    private static void doNotComeWhenGuessedWrong(Check check) {
        StageChip chip = new StageChip();
        Chips.putAt(chip, 62, Chips.same(0, 0, -40));
        chip.start(62);
        chip.cycles(30);
        check.same("cause", chip.count(Chips.CAUSE), 0);
        check.same("faults", chip.count(Chips.FAULTS), 0);
        check.same("wrong guesses", chip.count(Chips.WRONG_GUESSES), 1);
    }

    private static void standAtAnyPlace(Check check) {
        int[][] rows = {{GREATEST, 0, GREATEST}, {GREATEST, 1, LEAST}, {LEAST, -1, GREATEST}, {0, -5, -5}, {1, 63, 64}};
        for (int[] row : rows) {
            StageChip chip = Chips.with(Chips.back(3, 2, row[1]));
            chip.set(2, row[0]);
            chip.cycles(4);
            check.same("FETCHED", chip.stage(StageChip.FETCHED), row[2]);
            check.same("WHERE", chip.count(Chips.WHERE), row[2] + 1);
            chip.cycles(5);
            check.same("counts", Chips.counts(chip), "9 1 0 1 1 0 1 " + row[2] + " 0");
            check.same("register 3", chip.register(3), 1);
        }
    }

    private static void divideForSixCycles(Check check) {
        StageChip chip = Chips.with(Chips.of(Chips.DIV, 1, 2, 0));
        chip.cycles(10);
        check.same("before", Chips.counts(chip).startsWith("10 0 5 0 "), true);
        check.same("cause before", chip.count(Chips.CAUSE), 0);
        chip.cycles(1);
        check.same("then", Chips.counts(chip), "11 0 5 0 1 0 4 0 0");
    }

    private static void comeAtTheEdgesOfThePlaces(Check check) {
        int[][] rows = {{-64, 1}, {-2, 1}, {-1, 1}, {0, 0}, {1, 0}, {62, 0}, {63, 0}, {64, 1}, {65, 1},
            {LEAST, 1}, {GREATEST, 1}};
        for (int[] row : rows) {
            StageChip chip = new StageChip();
            Chips.putAt(chip, 30, Chips.back(0, 1, 0));
            chip.set(1, row[0]);
            chip.handler(40);
            chip.start(30);
            check.same("retired, gone to " + row[0], chip.cycles(9), row[1] == 1 ? 1 : 2);
            check.same("cause of " + row[0], chip.count(Chips.CAUSE), row[1]);
            check.same("return of " + row[0], chip.count(Chips.RETURN), row[1] == 1 ? row[0] : 0);
        }
    }

    /** The cycle ends with that: nothing is fetched in it, and what was in MEMORY stores nothing. */
    private static void emptyAllStages(Check check) {
        StageChip chip = Chips.with(Chips.nop(), Chips.call(), Chips.store(1, 0, 4), Chips.same(0, 0, 9));
        chip.set(1, 8);
        chip.handler(50);
        chip.cycles(6);
        check.same("stages before", Chips.stages(chip), "5 4 3 2 1");
        chip.cycles(1);
        check.same("stages", Chips.stages(chip), ". . . . .");
        check.same("counts", Chips.counts(chip), "7 1 0 0 1 50 2 1 0");
        check.same("word 4", chip.peek(4), 0);
        check.same("counters", Chips.counters(chip), "11111111");
    }

    private static void keepTheHaltBehindThemOff(Check check) {
        StageChip chip = Chips.with(Chips.call(), Chips.halt());
        Chips.putAt(chip, 20, Chips.jump(0, 0));
        chip.handler(20);
        chip.cycles(60);
        check.same("halted", chip.count(Chips.HALTED), 0);
        check.same("faults", chip.count(Chips.FAULTS), 1);
    }

    private static void comeWithAnyDivisorButZeroNever(Check check) {
        int[] divisors = {LEAST, -1, 1, 2, GREATEST};
        for (int divisor : divisors) {
            check.same("DIV by " + divisor, causeOf(Chips.of(Chips.DIV, 1, 3, 2), divisor), 0);
        }
        check.same("DIV by 0", causeOf(Chips.of(Chips.DIV, 1, 3, 2), 0), 4);
    }

    /** What is fetched from a place that there is not is a NOP, whatever stands at that place modulo 64. */
    private static void areThoseOfANop(Check check) {
        int[][] elsewhere = {Chips.same(0, 0, 5), Chips.jump(1, 5), Chips.of(Chips.MUL, 1, 2, 2), Chips.call(),
            Chips.of(Chips.DIV, 1, 2, 0), Chips.load(1, 0, -1), Chips.halt(), Chips.store(2, 0, 4), Chips.setTo(1, 5)};
        for (int[] instruction : elsewhere) {
            StageChip chip = Chips.with(instruction, instruction, instruction, instruction);
            chip.handler(30);
            chip.start(63);
            check.trace("behind 63", chip, "63 . . . .", "64 63 . . .", "65 64 63 . .", "66 65 64 63 .",
                    "67 66 65 64 63", "68 67 66 65 64", ". . . . .");
            check.same("counts", Chips.counts(chip), "7 1 0 0 1 30 1 64 0");
            check.same("counters", Chips.counters(chip), "11111111");
            check.same("register 1", chip.register(1), 0);
        }
    }

    /** None goes from FETCHED and READ when a fault is found: all go when it leaves WRITTEN. */
    private static void leaveWhatIsBehindUntilTheyCome(Check check) {
        int[][] faulty = {Chips.call(), Chips.load(1, 0, 32), Chips.store(1, 0, -1), Chips.of(Chips.DIV, 1, 1, 0)};
        for (int[] instruction : faulty) {
            StageChip chip = Chips.with(instruction);
            chip.handler(50);
            chip.cycles(instruction[0] == Chips.DIV ? 8 : 3);
            check.trace("from operation " + instruction[0], chip, "3 2 1 0 .", "4 3 2 1 0", ". . . . .", "50 . . . .");
            check.same("wrong guesses", chip.count(Chips.WRONG_GUESSES), 0);
            check.same("faults", chip.count(Chips.FAULTS), 1);
        }
    }

    /** A branch right behind them compares register 1 as it is, and its counter tells. */
    private static void handNothingOn(Check check) {
        int[][] faulty = {Chips.load(1, 0, 32), Chips.of(Chips.STORE, 1, 2, 2), Chips.of(Chips.DIV, 1, 1, 0),
            Chips.of(Chips.CALL, 1, 1, 1)};
        for (int[] instruction : faulty) {
            StageChip chip = Chips.with(instruction, Chips.same(1, 2, 9));
            chip.set(1, 71);
            chip.set(2, 71);
            chip.cycles(instruction[0] == Chips.DIV ? 10 : 5);
            check.same("counter 1 behind operation " + instruction[0], chip.counter(1), 2);
            chip.cycles(1);
            check.same("faults", chip.count(Chips.FAULTS), 1);
        }
    }
}
