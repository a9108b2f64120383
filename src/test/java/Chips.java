/** Programs for chips, and the whole of what a chip shows. */
final class Chips {
    static final int ADD = 0, SUB = 1, AND = 2, OR = 3, XOR = 4, SHIFT = 5, LESS = 6, MUL = 7, DIV = 8, ADDN = 9;
    static final int SET = 10, LOAD = 11, STORE = 12, SAME = 13, OTHER = 14, JUMP = 15, BACK = 16;
    static final int CALL = 17, HALT = 18, NOP = 19;

    static final int CYCLES = 0, RETIRED = 1, WAITS = 2, WRONG_GUESSES = 3, FAULTS = 4;
    static final int WHERE = 5, CAUSE = 6, RETURN = 7, HALTED = 8;

    private Chips() {
    }

    static int[] of(int operation, int d, int s, int t) {
        return new int[] {operation, d, s, t, 0};
    }

    static int[] setTo(int d, int n) {
        return new int[] {SET, d, 0, 0, n};
    }

    static int[] addn(int d, int s, int n) {
        return new int[] {ADDN, d, s, 0, n};
    }

    static int[] load(int d, int s, int n) {
        return new int[] {LOAD, d, s, 0, n};
    }

    static int[] store(int t, int s, int n) {
        return new int[] {STORE, 0, s, t, n};
    }

    static int[] same(int s, int t, int n) {
        return new int[] {SAME, 0, s, t, n};
    }

    static int[] other(int s, int t, int n) {
        return new int[] {OTHER, 0, s, t, n};
    }

    static int[] jump(int d, int n) {
        return new int[] {JUMP, d, 0, 0, n};
    }

    static int[] back(int d, int s, int n) {
        return new int[] {BACK, d, s, 0, n};
    }

    static int[] call() {
        return of(CALL, 0, 0, 0);
    }

    static int[] halt() {
        return of(HALT, 0, 0, 0);
    }

    static int[] nop() {
        return of(NOP, 0, 0, 0);
    }

    /** A new chip with these at places 0, 1, 2 .. */
    static StageChip with(int[]... instructions) {
        StageChip chip = new StageChip();
        putAt(chip, 0, instructions);
        return chip;
    }

    static void putAt(StageChip chip, int first, int[]... instructions) {
        for (int i = 0; i < instructions.length; i++) {
            int[] x = instructions[i];
            chip.put(first + i, x[0], x[1], x[2], x[3], x[4]);
        }
    }

    /** A chip in the midst of its work: nothing that it shows is as in a new one, and a fault is on its way. */
    static StageChip busy() {
        StageChip chip = with(
                setTo(1, 5), setTo(2, 7), of(ADD, 3, 1, 2), store(3, 0, 4), load(4, 0, 4), of(MUL, 5, 4, 3),
                of(DIV, 6, 5, 1), addn(7, 7, 1), other(7, 1, -1), call(), nop(), nop());
        putAt(chip, 40, addn(8, 8, 1), store(8, 0, 6), jump(9, -40));
        chip.handler(40);
        chip.poke(9, -3);
        chip.set(15, 77);
        chip.cycles(60);
        return chip;
    }

    /** New; all stages full; busy; in a long work; with a fault in WRITTEN and a STORE behind it; halted. */
    static StageChip[] inEachState() {
        StageChip full = new StageChip();
        full.cycles(40);
        StageChip dividing = with(of(DIV, 3, 1, 2), store(3, 0, 4));
        dividing.set(1, 100);
        dividing.set(2, 7);
        dividing.cycles(6);
        StageChip faulty = with(setTo(1, 9), call(), store(1, 0, 4));
        faulty.handler(50);
        faulty.cycles(6);
        StageChip halted = with(setTo(1, 9), store(1, 0, 4), halt());
        halted.cycles(20);
        return new StageChip[] {new StageChip(), full, busy(), dividing, faulty, halted};
    }

    static String stages(StageChip chip) {
        StringBuilder row = new StringBuilder();
        for (int i = StageChip.FETCHED; i <= StageChip.WRITTEN; i++) {
            int place = chip.stage(i);
            row.append(i == 0 ? "" : " ").append(place == StageChip.NONE ? "." : String.valueOf(place));
        }
        return row.toString();
    }

    static String registers(StageChip chip) {
        StringBuilder row = new StringBuilder();
        for (int i = 0; i < 16; i++) {
            row.append(chip.register(i)).append(' ');
        }
        return row.toString().trim();
    }

    static String data(StageChip chip) {
        StringBuilder row = new StringBuilder();
        for (int i = 0; i < 32; i++) {
            row.append(chip.peek(i)).append(' ');
        }
        return row.toString().trim();
    }

    static String counters(StageChip chip) {
        StringBuilder row = new StringBuilder();
        for (int i = 0; i < 8; i++) {
            row.append(chip.counter(i));
        }
        return row.toString();
    }

    /** The latest first, as many as there are. */
    static String retired(StageChip chip) {
        StringBuilder row = new StringBuilder();
        int kept = Math.min(16, chip.count(RETIRED));
        for (int i = 0; i < kept; i++) {
            row.append(chip.retired(i)).append(' ');
        }
        return row.toString().trim();
    }

    static String counts(StageChip chip) {
        StringBuilder row = new StringBuilder();
        for (int i = 0; i <= HALTED; i++) {
            row.append(chip.count(i)).append(' ');
        }
        return row.toString().trim();
    }

    static String state(StageChip chip) {
        return "registers " + registers(chip) + " data " + data(chip) + " stages " + stages(chip)
                + " counters " + counters(chip) + " retired " + retired(chip) + " counts " + counts(chip)
                + " pace " + chip.pace();
    }
}
