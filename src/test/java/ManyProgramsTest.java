/** Programs by the thousand, always the same ones, held against the timetable. */
final class ManyProgramsTest {
    private static final int PROGRAMS = 4000;
    private static final int LAST_CYCLE = 240;
    private static final int[] OFTEN = {Chips.ADD, Chips.SUB, Chips.ADDN, Chips.ADDN, Chips.SET, Chips.LOAD, Chips.LOAD,
        Chips.STORE, Chips.STORE, Chips.SAME, Chips.SAME, Chips.OTHER, Chips.OTHER, Chips.JUMP, Chips.MUL, Chips.DIV};

    private final Numbers numbers;

    private ManyProgramsTest(long seed) {
        numbers = new Numbers(seed);
    }

    public static void main(String[] args) {
        Check check = new Check();
        int halted = 0;
        int faults = 0;
        for (int i = 1; i <= PROGRAMS; i++) {
            StageChip chip = new ManyProgramsTest(i).hold(check, "program " + i);
            halted += chip.count(Chips.HALTED);
            faults += chip.count(Chips.FAULTS);
        }
        check.same("many halted", halted > PROGRAMS / 20 && halted < PROGRAMS, true);
        check.same("many faults came", faults > PROGRAMS, true);
        check.end();
    }

    private StageChip hold(Check check, String what) {
        int[][] program = new int[64][];
        for (int i = 0; i < program.length; i++) {
            program[i] = anInstruction();
        }
        int[] registers = someNumbers(16);
        registers[0] = 0;
        int[] data = someNumbers(32);
        int handler = below(64);
        Timetable due = new Timetable(program, registers, data, handler, LAST_CYCLE);
        StageChip chip = load(program, registers, data, handler);
        int cycle = 0;
        for (int piece = 0; piece < 3; piece++) {
            int more = 1 + below(LAST_CYCLE / 3);
            chip.cycles(more);
            cycle += more;
            check.same(what + " after " + cycle, Timetable.stateOf(chip), due.stateAfter(cycle, registers, data));
        }
        return chip;
    }

    private static StageChip load(int[][] program, int[] registers, int[] data, int handler) {
        StageChip chip = new StageChip();
        Chips.putAt(chip, 0, program);
        for (int i = 1; i < registers.length; i++) {
            chip.set(i, registers[i]);
        }
        for (int i = 0; i < data.length; i++) {
            chip.poke(i, data[i]);
        }
        chip.handler(handler);
        return chip;
    }

    private int below(int bound) {
        return numbers.below(bound);
    }

    private int[] anInstruction() {
        int operation = below(3) == 0 ? below(20) : OFTEN[below(OFTEN.length)];
        int n = below(6) == 0 ? below(128) - 64 : below(14) - 5;
        return new int[] {operation, below(6), below(6), below(6), n};
    }

    private int[] someNumbers(int size) {
        int[] row = new int[size];
        for (int i = 0; i < size; i++) {
            row[i] = below(8) == 0 ? below(Integer.MAX_VALUE) * (below(2) * 2 - 1) : below(36) - 3;
        }
        return row;
    }
}
