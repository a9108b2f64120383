/** What each operation does, and which registers it uses and writes. */
final class OperationTest {
    private static final int LEAST = Integer.MIN_VALUE, GREATEST = Integer.MAX_VALUE;

    public static void main(String[] args) {
        Check check = new Check();
        reckonsFromTwoRegisters(check);
        reckonsWithItsNumber(check);
        readsAndWritesData(check);
        goesElsewhere(check);
        handsOn(check);
        usesWhatIsTold(check);
        writesWhatIsTold(check);
        check.end();
    }

    private static void reckonsFromTwoRegisters(Check check) {
        int[][] rows = {
            {Chips.ADD, 3, 4, 7}, {Chips.ADD, GREATEST, 1, LEAST},
            {Chips.SUB, 3, 4, -1}, {Chips.SUB, LEAST, 1, GREATEST},
            {Chips.AND, 12, 10, 8}, {Chips.OR, 12, 10, 14}, {Chips.XOR, 12, 10, 6},
            {Chips.SHIFT, 3, 4, 48}, {Chips.SHIFT, 1, 31, LEAST}, {Chips.SHIFT, 5, 32, 5}, {Chips.SHIFT, 1, -1, LEAST},
            {Chips.LESS, 3, 4, 1}, {Chips.LESS, 4, 4, 0}, {Chips.LESS, LEAST, GREATEST, 1}, {Chips.LESS, 1, -1, 0},
            {Chips.MUL, -3, 4, -12}, {Chips.MUL, 65536, 65537, 65536},
            {Chips.DIV, 7, 2, 3}, {Chips.DIV, -7, 2, -3}, {Chips.DIV, 7, -2, -3}, {Chips.DIV, LEAST, -1, LEAST},
            {Chips.DIV, 0, 5, 0},
        };
        for (int[] row : rows) {
            StageChip chip = Chips.with(Chips.of(row[0], 3, 1, 2), Chips.halt());
            chip.set(1, row[1]);
            chip.set(2, row[2]);
            chip.set(3, 99);
            check.same("retired", chip.cycles(20), 1);
            check.same("operation " + row[0] + " of " + row[1] + " and " + row[2], chip.register(3), row[3]);
        }
    }

    private static void reckonsWithItsNumber(Check check) {
        StageChip chip = Chips.with(Chips.addn(2, 1, 63), Chips.addn(3, 1, -64), Chips.setTo(4, -64), Chips.halt());
        chip.set(1, GREATEST);
        chip.cycles(20);
        check.same("ADDN that wraps", chip.register(2), LEAST + 62);
        check.same("ADDN down", chip.register(3), GREATEST - 64);
        check.same("SET", chip.register(4), -64);
    }

    private static void readsAndWritesData(Check check) {
        StageChip chip = Chips.with(Chips.store(1, 2, -64), Chips.load(3, 2, -64), Chips.load(4, 5, 60), Chips.halt());
        chip.set(1, 81);
        chip.set(2, 95);
        chip.set(5, -60);
        chip.poke(0, 82);
        check.same("retired", chip.cycles(20), 3);
        check.same("word 31", chip.peek(31), 81);
        check.same("LOAD behind STORE", chip.register(3), 81);
        check.same("LOAD of word 0", chip.register(4), 82);
    }

    private static void goesElsewhere(Check check) {
        check.same("SAME of the same", whereTo(Chips.same(1, 1, 7)), "17 10");
        check.same("SAME of others", whereTo(Chips.same(1, 2, 7)), "11 10");
        check.same("OTHER of the same", whereTo(Chips.other(1, 1, 7)), "11 10");
        check.same("OTHER of others", whereTo(Chips.other(1, 2, -7)), "3 10");
        check.same("JUMP", whereTo(Chips.jump(3, 53)), "63 10");
        check.same("BACK", whereTo(Chips.back(3, 2, -6)), "34 10");
        StageChip chip = Chips.with(Chips.jump(4, 3), Chips.nop(), Chips.nop(), Chips.back(5, 5, 1));
        chip.set(5, 20);
        chip.cycles(12);
        check.same("JUMP writes its place + 1", chip.register(4), 1);
        check.same("BACK writes its place + 1", chip.register(5), 4);
        check.same("BACK by what s was", Chips.retired(chip), "23 22 21 3 0");
    }

    /** The places that retire from one at 10 and the next. */
    private static String whereTo(int[] instruction) {
        StageChip chip = new StageChip();
        Chips.putAt(chip, 10, instruction);
        chip.set(2, 40);
        chip.start(10);
        while (chip.count(Chips.RETIRED) < 2) {
            chip.cycles(1);
        }
        return Chips.retired(chip);
    }

    private static void handsOn(Check check) {
        StageChip chip = Chips.with(Chips.setTo(1, 5), Chips.addn(1, 1, 1), Chips.of(Chips.ADD, 2, 1, 1),
                Chips.of(Chips.ADD, 3, 2, 1), Chips.of(Chips.MUL, 4, 3, 2), Chips.of(Chips.SUB, 5, 4, 3),
                Chips.store(5, 1, 0), Chips.load(6, 0, 6), Chips.of(Chips.SUB, 7, 0, 6), Chips.jump(8, 1),
                Chips.addn(9, 8, 1), Chips.halt());
        chip.cycles(40);
        check.same("registers", Chips.registers(chip), "0 6 12 18 216 198 198 -198 10 11 0 0 0 0 0 0");
    }

    /** Behind a LOAD into register 1, who uses it waits one cycle more. */
    private static void usesWhatIsTold(Check check) {
        String usesS = "11111111110111101000";
        String usesT = "11111111100011100000";
        for (int operation = Chips.ADD; operation <= Chips.NOP; operation++) {
            int without = waitsBehindLoad(operation, 2, 3);
            check.same("waits for s of operation " + operation,
                    waitsBehindLoad(operation, 1, 3) - without, usesS.charAt(operation) - '0');
            check.same("waits for t of operation " + operation,
                    waitsBehindLoad(operation, 2, 1) - without, usesT.charAt(operation) - '0');
            check.same("one wait for both of operation " + operation,
                    waitsBehindLoad(operation, 1, 1) - without, usesS.charAt(operation) - '0');
        }
    }

    private static int waitsBehindLoad(int operation, int s, int t) {
        StageChip chip = Chips.with(Chips.load(1, 0, 0), Chips.of(operation, 1, s, t));
        chip.set(2, 1);
        chip.set(3, 1);
        chip.poke(0, 1);
        chip.cycles(12);
        return chip.count(Chips.WAITS);
    }

    private static void writesWhatIsTold(Check check) {
        String writes = "11111111111100011000";
        for (int operation = Chips.ADD; operation <= Chips.NOP; operation++) {
            StageChip chip = Chips.with(Chips.of(operation, 4, 1, 2), Chips.addn(5, 4, 0), Chips.halt());
            chip.set(1, 1);
            chip.set(2, 2);
            chip.set(4, 99);
            chip.cycles(12);
            check.same("operation " + operation + " writes d",
                    chip.register(4) != 99, writes.charAt(operation) == '1');
        }
    }
}
