/** A processor of five stages; ../shared/DOC.md says, promise by promise, what it does. */
public final class StageChip {
    public static final int NONE = -1;
    public static final int FETCHED = 0, READ = 1, REACHED = 2, MEMORY = 3, WRITTEN = 4;

    private static final int STAGES = 5;
    private static final int PLACES = 64;
    private static final int WORDS = 32;
    private static final int REGISTERS = 16;
    private static final int COUNTERS = 8;
    private static final int REMEMBERED = 16;
    private static final int MOST_CYCLES = 300;
    private static final int LEAST_NUMBER = -64;
    private static final int GREATEST_NUMBER = 63;
    private static final int GREATEST_COUNTER = 3;

    private static final int ADD = 0, SUB = 1, AND = 2, OR = 3, XOR = 4, SHIFT = 5, LESS = 6;
    private static final int MUL = 7, DIV = 8, ADDN = 9, SET = 10, LOAD = 11, STORE = 12;
    private static final int SAME = 13, OTHER = 14, JUMP = 15, BACK = 16;
    private static final int CALL = 17, HALT = 18, NOP = 19;

    private static final int NO_FAULT = 0;
    private static final int FAULT_PLACE = 1, FAULT_CALL = 2, FAULT_ADDRESS = 3, FAULT_DIVISOR = 4;

    /** Never changes, so that a put leaves alone what is already in a stage. */
    private static final class Instruction {
        private final int operation;
        private final int d;
        private final int s;
        private final int t;
        private final int n;

        private Instruction(int operation, int d, int s, int t, int n) {
            this.operation = operation;
            this.d = d;
            this.s = s;
            this.t = t;
            this.n = n;
        }

        private boolean usesS() {
            return operation <= ADDN || operation == LOAD || operation == BACK || usesT();
        }

        private boolean usesT() {
            return operation <= DIV || operation == STORE || isBranch();
        }

        private boolean writesD() {
            return operation <= LOAD || operation == JUMP || operation == BACK;
        }

        private boolean isBranch() {
            return operation == SAME || operation == OTHER;
        }

        private boolean touchesData() {
            return operation == LOAD || operation == STORE;
        }

        private int workCycles() {
            if (operation == MUL) {
                return 3;
            }
            return operation == DIV ? 6 : 1;
        }
    }

    /** An instruction on its way; the five of an object are made once and used again. */
    private static final class Flight {
        private boolean present;
        private Instruction instruction;
        private int place;
        private int guess;
        private int worked;
        private int fault;
        private int address;
        private int value;

        private Flight(Instruction instruction) {
            this.instruction = instruction;
        }

        private boolean does(int operation) {
            return present && fault == NO_FAULT && instruction.operation == operation;
        }

        private boolean writes(int register) {
            return present && fault == NO_FAULT && register != 0
                    && instruction.writesD() && instruction.d == register;
        }
    }

    private final Instruction nop;
    private final Instruction[] program;
    private final int[] data;
    private final int[] registers;
    private final int[] counters;
    private final Flight[] stages;
    private final int[] lastRetired;
    private int where;
    private int handlerPlace;
    private int cause;
    private int returnPlace;
    private boolean halted;
    private int cycleCount;
    private int retiredCount;
    private int waitCount;
    private int wrongGuessCount;
    private int faultCount;

    public StageChip() {
        nop = new Instruction(NOP, 0, 0, 0, 0);
        program = new Instruction[PLACES];
        for (int i = 0; i < PLACES; i++) {
            program[i] = nop;
        }
        data = new int[WORDS];
        registers = new int[REGISTERS];
        counters = new int[COUNTERS];
        for (int i = 0; i < COUNTERS; i++) {
            counters[i] = 1;
        }
        stages = new Flight[STAGES];
        for (int i = 0; i < STAGES; i++) {
            stages[i] = new Flight(nop);
        }
        lastRetired = new int[REMEMBERED];
    }

    public void put(int place, int operation, int d, int s, int t, int n)
            throws IndexOutOfBoundsException, IllegalArgumentException {
        checkIndex(place, PLACES);
        checkArgument(operation, ADD, NOP);
        checkArgument(d, 0, REGISTERS - 1);
        checkArgument(s, 0, REGISTERS - 1);
        checkArgument(t, 0, REGISTERS - 1);
        checkArgument(n, LEAST_NUMBER, GREATEST_NUMBER);
        program[place] = new Instruction(operation, d, s, t, n);
    }

    public int poke(int word, int v) throws IndexOutOfBoundsException {
        checkIndex(word, WORDS);
        int old = data[word];
        data[word] = v;
        return old;
    }

    public int peek(int word) throws IndexOutOfBoundsException {
        checkIndex(word, WORDS);
        return data[word];
    }

    public int set(int register, int v) throws IndexOutOfBoundsException {
        checkIndex(register, REGISTERS);
        if (register == 0) {
            throw new IndexOutOfBoundsException("register 0 is always 0");
        }
        int old = registers[register];
        registers[register] = v;
        return old;
    }

    public int register(int which) throws IndexOutOfBoundsException {
        checkIndex(which, REGISTERS);
        return registers[which];
    }

    public void start(int place) throws IndexOutOfBoundsException {
        checkIndex(place, PLACES);
        emptyStagesBelow(STAGES);
        where = place;
        halted = false;
    }

    public int handler(int place) throws IndexOutOfBoundsException {
        checkIndex(place, PLACES);
        int old = handlerPlace;
        handlerPlace = place;
        return old;
    }

    public int cycles(int n) throws IllegalArgumentException {
        checkArgument(n, 1, MOST_CYCLES);
        int before = retiredCount;
        for (int i = 0; i < n && !halted; i++) {
            runCycle();
        }
        return retiredCount - before;
    }

    public int stage(int which) throws IndexOutOfBoundsException {
        checkIndex(which, STAGES);
        Flight flight = stages[which];
        return flight.present ? flight.place : NONE;
    }

    public int counter(int which) throws IndexOutOfBoundsException {
        checkIndex(which, COUNTERS);
        return counters[which];
    }

    public int retired(int i) throws IndexOutOfBoundsException {
        checkIndex(i, Math.min(retiredCount, REMEMBERED));
        return lastRetired[(retiredCount - 1 - i) % REMEMBERED];
    }

    public int count(int what) throws IllegalArgumentException {
        switch (what) {
            case 0: return cycleCount;
            case 1: return retiredCount;
            case 2: return waitCount;
            case 3: return wrongGuessCount;
            case 4: return faultCount;
            case 5: return where;
            case 6: return cause;
            case 7: return returnPlace;
            case 8: return halted ? 1 : 0;
            default: throw new IllegalArgumentException("there is no such count");
        }
    }

    public float pace() {
        return retiredCount == 0 ? 0f : (float) cycleCount / (float) retiredCount;
    }

    private static void checkIndex(int index, int size) {
        if (index < 0 || index >= size) {
            throw new IndexOutOfBoundsException("there is none such");
        }
    }

    private static void checkArgument(int value, int least, int greatest) {
        if (value < least || value > greatest) {
            throw new IllegalArgumentException("not in its bounds");
        }
    }

    private void runCycle() {
        cycleCount++;
        if (leaveEndsCycle(stages[WRITTEN])) {
            return;
        }
        passMemory(stages[MEMORY]);
        workInReached(stages[REACHED]);
        moveOnIfFree(READ);
        moveOnIfFree(FETCHED);
        fetchIfFree(stages[FETCHED]);
    }

    /** Step (1); true if it ends the cycle. */
    private boolean leaveEndsCycle(Flight flight) {
        if (!flight.present) {
            return false;
        }
        if (flight.fault != NO_FAULT) {
            takeFault(flight);
            return true;
        }
        if (flight.does(HALT)) {
            emptyStagesBelow(STAGES);
            halted = true;
            return true;
        }
        retire(flight);
        return false;
    }

    private void takeFault(Flight flight) {
        faultCount++;
        cause = flight.fault;
        returnPlace = flight.place;
        emptyStagesBelow(STAGES);
        where = handlerPlace;
    }

    private void retire(Flight flight) {
        int d = flight.instruction.d;
        if (flight.writes(d)) {
            registers[d] = flight.value;
        }
        lastRetired[Math.floorMod(retiredCount, REMEMBERED)] = flight.place;
        retiredCount++;
        flight.present = false;
    }

    /** Step (2). */
    private void passMemory(Flight flight) {
        if (flight.does(LOAD)) {
            flight.value = data[flight.address];
        } else if (flight.does(STORE)) {
            data[flight.address] = flight.value;
        }
        moveOnIfFree(MEMORY);
    }

    /** Step (3). MEMORY is empty in it: what was there at the beginning of the cycle is in WRITTEN. */
    private void workInReached(Flight flight) {
        if (!flight.present) {
            return;
        }
        if (needsLoadAhead(flight.instruction)) {
            waitCount++;
            return;
        }
        flight.worked++;
        if (flight.worked < flight.instruction.workCycles()) {
            waitCount++;
            return;
        }
        finishWork(flight);
        moveOnIfFree(REACHED);
    }

    private boolean needsLoadAhead(Instruction instruction) {
        Flight ahead = stages[WRITTEN];
        if (!ahead.does(LOAD)) {
            return false;
        }
        return instruction.usesS() && ahead.writes(instruction.s)
                || instruction.usesT() && ahead.writes(instruction.t);
    }

    private void finishWork(Flight flight) {
        int s = handedOn(flight.instruction.s);
        int t = handedOn(flight.instruction.t);
        if (flight.fault == NO_FAULT) {
            flight.fault = faultOf(flight.instruction, s, t);
        }
        if (flight.fault != NO_FAULT) {
            return;
        }
        flight.value = valueOf(flight, s, t);
        flight.address = flight.instruction.touchesData() ? s + flight.instruction.n : 0;
        boolean goes = goesElsewhere(flight.instruction.operation, s, t);
        if (flight.instruction.isBranch()) {
            learn(flight.place, goes);
        }
        holdAgainstGuess(flight, goes ? target(flight, s) : flight.place + 1);
    }

    /** A register as all ahead of REACHED leave it: only what is in WRITTEN is not in the registers yet. */
    private int handedOn(int register) {
        Flight ahead = stages[WRITTEN];
        return ahead.writes(register) ? ahead.value : registers[register];
    }

    private static int faultOf(Instruction instruction, int s, int t) {
        if (instruction.operation == CALL) {
            return FAULT_CALL;
        }
        if (instruction.touchesData() && !isWord(s + instruction.n)) {
            return FAULT_ADDRESS;
        }
        return instruction.operation == DIV && t == 0 ? FAULT_DIVISOR : NO_FAULT;
    }

    private static boolean isWord(int address) {
        return address >= 0 && address < WORDS;
    }

    private static int valueOf(Flight flight, int s, int t) {
        switch (flight.instruction.operation) {
            case ADD: return s + t;
            case SUB: return s - t;
            case AND: return s & t;
            case OR: return s | t;
            case XOR: return s ^ t;
            case SHIFT: return s << (t & 31);
            case LESS: return s < t ? 1 : 0;
            case MUL: return s * t;
            case DIV: return t == 0 ? 0 : s / t;
            case ADDN: return s + flight.instruction.n;
            case SET: return flight.instruction.n;
            case STORE: return t;
            case JUMP: return flight.place + 1;
            case BACK: return flight.place + 1;
            default: return 0;
        }
    }

    private static boolean goesElsewhere(int operation, int s, int t) {
        switch (operation) {
            case SAME: return s == t;
            case OTHER: return s != t;
            case JUMP: return true;
            case BACK: return true;
            default: return false;
        }
    }

    private static int target(Flight flight, int s) {
        int base = flight.instruction.operation == BACK ? s : flight.place;
        return base + flight.instruction.n;
    }

    private void learn(int place, boolean went) {
        int which = Math.floorMod(place, COUNTERS);
        int changed = counters[which] + (went ? 1 : -1);
        counters[which] = Math.max(0, Math.min(GREATEST_COUNTER, changed));
    }

    private void holdAgainstGuess(Flight flight, int next) {
        if (next != flight.guess) {
            wrongGuessCount++;
            emptyStagesBelow(REACHED);
            where = next;
        }
    }

    private void emptyStagesBelow(int end) {
        for (int i = 0; i < end; i++) {
            stages[i].present = false;
        }
    }

    /** Swaps the two flights, so that none has to be made or copied. */
    private void moveOnIfFree(int from) {
        if (!stages[from + 1].present) {
            Flight moved = stages[from];
            stages[from] = stages[from + 1];
            stages[from + 1] = moved;
        }
    }

    /** Step (6). */
    private void fetchIfFree(Flight flight) {
        if (flight.present) {
            return;
        }
        boolean found = where >= 0 && where < PLACES;
        flight.present = true;
        flight.place = where;
        flight.instruction = found ? program[where] : nop;
        flight.fault = found ? NO_FAULT : FAULT_PLACE;
        flight.worked = 0;
        flight.address = 0;
        flight.value = 0;
        flight.guess = guessNext(flight.instruction, where);
        where = flight.guess;
    }

    private int guessNext(Instruction instruction, int place) {
        boolean goes = instruction.operation == JUMP
                || instruction.isBranch() && counters[Math.floorMod(place, COUNTERS)] >= 2;
        return goes ? place + instruction.n : place + 1;
    }
}
