/** What each operation does, and which registers it uses and writes. */
final class OperationTest {
    private static final int LEAST = Integer.MIN_VALUE, GREATEST = Integer.MAX_VALUE;

    public static void main(String[] args) {
        Check check = new Check();
        reckonsFromTwoRegisters(check);
        reckonsWithItsNumber(check);
        wrapsWithItsNumber(check);
        takesItsCycles(check);
        readsAndWritesData(check);
        goesElsewhere(check);
        handsOn(check);
        usesWhatIsTold(check);
        writesWhatIsTold(check);
        goesToTheEdgesOfThePlaces(check);
        comparesAllBits(check);
        goesBySWhereItWraps(check);
        writesThePlaceBehindTheLast(check);
        handsOnTheNewest(check);
        waitsForTheLoadRightAheadAlone(check);
        worksWithTheSameRegisterThrice(check);
        handsOnNothingWithoutD(check);
        check.end();
    }

    private static void reckonsFromTwoRegisters(Check check) {
        int[][] rows = {
            {Chips.ADD, 3, 4, 7}, {Chips.ADD, GREATEST, 1, LEAST}, {Chips.ADD, LEAST, -1, GREATEST},
            {Chips.ADD, LEAST, LEAST, 0},
            {Chips.SUB, 3, 4, -1}, {Chips.SUB, LEAST, 1, GREATEST}, {Chips.SUB, GREATEST, -1, LEAST},
            {Chips.SUB, 0, LEAST, LEAST},
            {Chips.AND, 12, 10, 8}, {Chips.OR, 12, 10, 14}, {Chips.XOR, 12, 10, 6},
            {Chips.AND, LEAST, -1, LEAST}, {Chips.OR, LEAST, GREATEST, -1}, {Chips.XOR, LEAST, -1, GREATEST},
            {Chips.SHIFT, 3, 4, 48}, {Chips.SHIFT, 1, 31, LEAST}, {Chips.SHIFT, 5, 32, 5}, {Chips.SHIFT, 1, -1, LEAST},
            {Chips.SHIFT, -5, 0, -5}, {Chips.SHIFT, 5, 33, 10}, {Chips.SHIFT, 5, LEAST, 5}, {Chips.SHIFT, 3, 31, LEAST},
            {Chips.SHIFT, 2, 31, 0}, {Chips.SHIFT, 1, 30, 1 << 30}, {Chips.SHIFT, 1, -32, 1}, {Chips.SHIFT, 1, 63, LEAST},
            {Chips.LESS, 3, 4, 1}, {Chips.LESS, 4, 4, 0}, {Chips.LESS, LEAST, GREATEST, 1}, {Chips.LESS, 1, -1, 0},
            {Chips.LESS, GREATEST, LEAST, 0}, {Chips.LESS, LEAST, LEAST, 0}, {Chips.LESS, LEAST, LEAST + 1, 1},
            {Chips.LESS, -1, 0, 1}, {Chips.LESS, 0, -1, 0}, {Chips.LESS, 4, 3, 0},
            {Chips.MUL, -3, 4, -12}, {Chips.MUL, 65536, 65537, 65536},
            {Chips.MUL, LEAST, -1, LEAST}, {Chips.MUL, 65536, 65536, 0}, {Chips.MUL, GREATEST, GREATEST, 1},
            {Chips.MUL, 0, LEAST, 0},
            {Chips.DIV, 7, 2, 3}, {Chips.DIV, -7, 2, -3}, {Chips.DIV, 7, -2, -3}, {Chips.DIV, LEAST, -1, LEAST},
            {Chips.DIV, 0, 5, 0}, {Chips.DIV, -7, -2, 3}, {Chips.DIV, 1, 2, 0}, {Chips.DIV, -1, 2, 0},
            {Chips.DIV, LEAST, 1, LEAST}, {Chips.DIV, LEAST, LEAST, 1}, {Chips.DIV, GREATEST, LEAST, 0},
            {Chips.DIV, LEAST, GREATEST, -1}, {Chips.DIV, 5, -1, -5},
        };
        for (int[] row : rows) {
            StageChip chip = Chips.with(Chips.of(row[0], 3, 1, 2), Chips.halt());
            chip.set(1, row[1]);
            chip.set(2, row[2]);
            chip.set(3, 99);
            check.same("retired", chip.cycles(20), 1);
            check.same("operation " + row[0] + " of " + row[1] + " and " + row[2], chip.register(3), row[3]);
        }
    }

    private static void reckonsWithItsNumber(Check check) {
        StageChip chip = Chips.with(Chips.addn(2, 1, 63), Chips.addn(3, 1, -64), Chips.setTo(4, -64), Chips.halt());
        chip.set(1, GREATEST);
        chip.cycles(20);
        check.same("ADDN that wraps", chip.register(2), LEAST + 62);
        check.same("ADDN down", chip.register(3), GREATEST - 64);
        check.same("SET", chip.register(4), -64);
    }

    private static void readsAndWritesData(Check check) {
        StageChip chip = Chips.with(Chips.store(1, 2, -64), Chips.load(3, 2, -64), Chips.load(4, 5, 60), Chips.halt());
        chip.set(1, 81);
        chip.set(2, 95);
        chip.set(5, -60);
        chip.poke(0, 82);
        check.same("retired", chip.cycles(20), 3);
        check.same("word 31", chip.peek(31), 81);
        check.same("LOAD behind STORE", chip.register(3), 81);
        check.same("LOAD of word 0", chip.register(4), 82);
    }

    private static void goesElsewhere(Check check) {
        check.same("SAME of the same", whereTo(Chips.same(1, 1, 7)), "17 10");
        check.same("SAME of others", whereTo(Chips.same(1, 2, 7)), "11 10");
        check.same("OTHER of the same", whereTo(Chips.other(1, 1, 7)), "11 10");
        check.same("OTHER of others", whereTo(Chips.other(1, 2, -7)), "3 10");
        check.same("JUMP", whereTo(Chips.jump(3, 53)), "63 10");
        check.same("BACK", whereTo(Chips.back(3, 2, -6)), "34 10");
        StageChip chip = Chips.with(Chips.jump(4, 3), Chips.nop(), Chips.nop(), Chips.back(5, 5, 1));
        chip.set(5, 20);
        chip.cycles(12);
        check.same("JUMP writes its place + 1", chip.register(4), 1);
        check.same("BACK writes its place + 1", chip.register(5), 4);
        check.same("BACK by what s was", Chips.retired(chip), "23 22 21 3 0");
    }

    /** The places that retire from one at 10 and the next. */
    private static String whereTo(int[] instruction) {
        StageChip chip = new StageChip();
        Chips.putAt(chip, 10, instruction);
        chip.set(2, 40);
        chip.start(10);
        while (chip.count(Chips.RETIRED) < 2) {
            chip.cycles(1);
        }
        return Chips.retired(chip);
    }

    private static void handsOn(Check check) {
        StageChip chip = Chips.with(Chips.setTo(1, 5), Chips.addn(1, 1, 1), Chips.of(Chips.ADD, 2, 1, 1),
                Chips.of(Chips.ADD, 3, 2, 1), Chips.of(Chips.MUL, 4, 3, 2), Chips.of(Chips.SUB, 5, 4, 3),
                Chips.store(5, 1, 0), Chips.load(6, 0, 6), Chips.of(Chips.SUB, 7, 0, 6), Chips.jump(8, 1),
                Chips.addn(9, 8, 1), Chips.halt());
        chip.cycles(40);
        check.same("registers", Chips.registers(chip), "0 6 12 18 216 198 198 -198 10 11 0 0 0 0 0 0");
    }

    /** Behind a LOAD into register 1, who uses it waits one cycle more. */
    private static void usesWhatIsTold(Check check) {
        String usesS = "11111111110111101000";
        String usesT = "11111111100011100000";
        for (int operation = Chips.ADD; operation <= Chips.NOP; operation++) {
            int without = waitsBehindLoad(operation, 2, 3);
            check.same("waits for s of operation " + operation,
                    waitsBehindLoad(operation, 1, 3) - without, usesS.charAt(operation) - '0');
            check.same("waits for t of operation " + operation,
                    waitsBehindLoad(operation, 2, 1) - without, usesT.charAt(operation) - '0');
            check.same("one wait for both of operation " + operation,
                    waitsBehindLoad(operation, 1, 1) - without, usesS.charAt(operation) - '0');
        }
    }

    private static int waitsBehindLoad(int operation, int s, int t) {
        StageChip chip = Chips.with(Chips.load(1, 0, 0), Chips.of(operation, 1, s, t));
        chip.set(2, 1);
        chip.set(3, 1);
        chip.poke(0, 1);
        chip.cycles(12);
        return chip.count(Chips.WAITS);
    }

    private static void writesWhatIsTold(Check check) {
        String writes = "11111111111100011000";
        for (int operation = Chips.ADD; operation <= Chips.NOP; operation++) {
            StageChip chip = Chips.with(Chips.of(operation, 4, 1, 2), Chips.addn(5, 4, 0), Chips.halt());
            chip.set(1, 1);
            chip.set(2, 2);
            chip.set(4, 99);
            chip.cycles(12);
            check.same("operation " + operation + " writes d",
                    chip.register(4) != 99, writes.charAt(operation) == '1');
        }
    }

    private static void wrapsWithItsNumber(Check check) {
        int[][] rows = {{GREATEST, 1, LEAST}, {GREATEST, 63, LEAST + 62}, {LEAST, -1, GREATEST},
            {LEAST, -64, GREATEST - 63}, {GREATEST, -64, GREATEST - 64}, {LEAST, 63, LEAST + 63}, {5, 0, 5}};
        for (int[] row : rows) {
            StageChip chip = Chips.with(Chips.addn(2, 1, row[1]));
            chip.set(1, row[0]);
            chip.cycles(6);
            check.same("ADDN of " + row[0] + " and " + row[1], chip.register(2), row[2]);
        }
    }

    /** MUL 3, DIV 6, all others 1; all but the last are waits. */
    private static void takesItsCycles(Check check) {
        for (int operation = Chips.ADD; operation <= Chips.NOP; operation++) {
            int due = operation == Chips.MUL ? 3 : operation == Chips.DIV ? 6 : 1;
            StageChip chip = Chips.with(Chips.of(operation, 3, 1, 2));
            chip.set(1, 20);
            chip.set(2, 3);
            chip.cycles(3);
            int worked = 0;
            while (chip.stage(StageChip.MEMORY) == StageChip.NONE && worked < 10) {
                check.same("in REACHED", chip.stage(StageChip.REACHED), 0);
                check.same("waits of operation " + operation, chip.count(Chips.WAITS), worked);
                chip.cycles(1);
                worked++;
            }
            check.same("cycles of operation " + operation, worked, due);
            check.same("waits of operation " + operation + " in all", chip.count(Chips.WAITS), due - 1);
        }
    }

    private static void goesToTheEdgesOfThePlaces(Check check) {
        int[][] rows = {{0, 63, 63}, {0, 0, 0}, {0, -1, -1}, {0, -64, -64}, {1, 63, 64}, {63, -63, 0}, {63, -64, -1},
            {63, 1, 64}, {63, 63, 126}, {63, 0, 63}};
        for (int[] row : rows) {
            check.same("SAME", whereFrom(row[0], Chips.same(1, 1, row[1])), row[2]);
            check.same("OTHER", whereFrom(row[0], Chips.other(1, 2, row[1])), row[2]);
            check.same("JUMP", whereFrom(row[0], Chips.jump(3, row[1])), row[2]);
            check.same("BACK", whereFrom(row[0], Chips.back(3, 4, row[1])), row[2]);
            check.same("SAME that stays", whereFrom(row[0], Chips.same(1, 2, row[1])), row[0] + 1);
            check.same("OTHER that stays", whereFrom(row[0], Chips.other(1, 1, row[1])), row[0] + 1);
        }
    }

    /** The place that is behind the instruction, right when its guess has been held against its next place. */
    private static int whereFrom(int place, int[] instruction) {
        StageChip chip = new StageChip();
        Chips.putAt(chip, place, instruction);
        chip.set(2, 5);
        chip.set(4, place);
        chip.start(place);
        chip.cycles(4);
        boolean guessed = chip.count(Chips.WRONG_GUESSES) == 0;
        return chip.stage(guessed ? StageChip.REACHED : StageChip.FETCHED);
    }

    private static void comparesAllBits(Check check) {
        int[][] rows = {{LEAST, GREATEST, 0}, {LEAST, 0, 0}, {0, 1, 0}, {-1, GREATEST, 0}, {LEAST, LEAST, 1},
            {-1, -1, 1}, {1 << 16, 0, 0}};
        for (int[] row : rows) {
            StageChip chip = Chips.with(Chips.same(1, 2, 20));
            Chips.putAt(chip, 1, Chips.other(1, 2, 30));
            chip.set(1, row[0]);
            chip.set(2, row[1]);
            chip.cycles(4);
            check.same("SAME of " + row[0] + " and " + row[1], chip.counter(0), row[2] == 1 ? 2 : 0);
            chip.start(1);
            chip.cycles(4);
            check.same("OTHER of " + row[0] + " and " + row[1], chip.counter(1), row[2] == 1 ? 0 : 2);
        }
    }

    private static void goesBySWhereItWraps(Check check) {
        int[][] rows = {{GREATEST, 1, LEAST}, {GREATEST, 63, LEAST + 62}, {LEAST, -1, GREATEST},
            {LEAST, -64, GREATEST - 63}, {64, -1, 63}, {-1, 1, 0}, {127, -64, 63}, {64, 0, 64}, {0, -1, -1}};
        for (int[] row : rows) {
            StageChip chip = new StageChip();
            Chips.putAt(chip, 9, Chips.back(3, 4, row[1]));
            chip.set(4, row[0]);
            chip.handler(30);
            chip.start(9);
            chip.cycles(4);
            check.same("BACK to " + row[0] + " + " + row[1], chip.stage(StageChip.FETCHED), row[2]);
            chip.cycles(5);
            boolean stands = row[2] >= 0 && row[2] < 64;
            check.same("fault at " + row[2], chip.count(Chips.CAUSE), stands ? 0 : 1);
            check.same("return of " + row[2], chip.count(Chips.RETURN), stands ? 0 : row[2]);
        }
    }

    private static void writesThePlaceBehindTheLast(Check check) {
        int[][] rows = {Chips.jump(15, -63), Chips.back(15, 0, 0)};
        for (int place = 0; place < 64; place += 63) {
            for (int[] instruction : rows) {
                StageChip chip = new StageChip();
                Chips.putAt(chip, place, instruction);
                chip.start(place);
                chip.cycles(6);
                check.same("register 15 by operation " + instruction[0], chip.register(15), place + 1);
            }
        }
    }

    /** Of three that write a register, the one right ahead counts, as far as it is from those that use it. */
    private static void handsOnTheNewest(Check check) {
        for (int nops = 0; nops <= 4; nops++) {
            StageChip chip = Chips.with(Chips.setTo(1, 5), Chips.setTo(1, 6), Chips.setTo(1, 7));
            Chips.putAt(chip, 3 + nops, Chips.of(Chips.ADD, 2, 1, 1), Chips.setTo(1, 8));
            chip.cycles(20);
            check.same("register 2 behind " + nops + " NOPs", chip.register(2), 14);
            check.same("register 1", chip.register(1), 8);
        }
    }

    private static void waitsForTheLoadRightAheadAlone(Check check) {
        for (int nops = 0; nops <= 3; nops++) {
            StageChip chip = Chips.with(Chips.load(1, 0, 3));
            Chips.putAt(chip, 1 + nops, Chips.of(Chips.ADD, 2, 1, 1));
            chip.poke(3, 21);
            chip.cycles(14);
            check.same("register 2 behind " + nops + " NOPs", chip.register(2), 42);
            check.same("waits behind " + nops + " NOPs", chip.count(Chips.WAITS), nops == 0 ? 1 : 0);
        }
        StageChip chained = Chips.with(Chips.load(1, 0, 3), Chips.load(1, 1, 0), Chips.load(2, 1, 0), Chips.halt());
        chained.poke(3, 4);
        chained.poke(4, 5);
        chained.poke(5, 6);
        chained.cycles(20);
        check.same("LOADs behind one another", chained.register(2), 6);
        check.same("their waits", chained.count(Chips.WAITS), 2);
    }

    private static void worksWithTheSameRegisterThrice(Check check) {
        int[] due = {14, 0, 7, 7, 0, 896, 0, 49, 1};
        for (int operation = Chips.ADD; operation <= Chips.DIV; operation++) {
            StageChip chip = Chips.with(Chips.of(operation, 15, 15, 15));
            chip.set(15, 7);
            chip.cycles(11);
            check.same("operation " + operation + " of 15, 15 and 15", chip.register(15), due[operation]);
        }
    }

    /** Those without d hand on nothing either, to the one right behind and to the next. */
    private static void handsOnNothingWithoutD(Check check) {
        int[] withoutD = {Chips.STORE, Chips.SAME, Chips.OTHER, Chips.NOP};
        for (int operation : withoutD) {
            StageChip chip = new StageChip();
            chip.put(0, operation, 4, 1, 2, 1);
            Chips.putAt(chip, 1, Chips.addn(5, 4, 0), Chips.addn(6, 4, 0));
            chip.set(1, 3);
            chip.set(2, 8);
            chip.set(4, 99);
            check.same("retired behind operation " + operation, chip.cycles(8), 3);
            check.same("registers behind operation " + operation, Chips.registers(chip),
                    "0 3 8 0 99 99 99 0 0 0 0 0 0 0 0 0");
        }
    }
}
