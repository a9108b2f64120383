import java.util.ArrayList;
import java.util.Arrays;
import java.util.List;

/**
 * The document's words once more, sentence by sentence and with no thought of objects made, to hold the chip against:
 * a stage is null or an instruction on its way, and what all ahead leave in a register is reckoned from all stages ahead.
 */
final class PlainChip {
    private static final int FETCHED = 0, READ = 1, REACHED = 2, MEMORY = 3, WRITTEN = 4;

    private static final class Going {
        private final int place;
        private final int operation, d, s, t, n;
        private int guess;
        private int cyclesToWork;
        private int fault;
        private int address;
        private int value;

        private Going(int place, int[] x) {
            this.place = place;
            operation = x[0];
            d = x[1];
            s = x[2];
            t = x[3];
            n = x[4];
            cyclesToWork = operation == Chips.MUL ? 3 : operation == Chips.DIV ? 6 : 1;
        }

        private boolean isBranch() {
            return operation == Chips.SAME || operation == Chips.OTHER;
        }

        private boolean hasD() {
            return switch (operation) {
                case Chips.STORE, Chips.SAME, Chips.OTHER, Chips.CALL, Chips.HALT, Chips.NOP -> false;
                default -> true;
            };
        }

        private List<Integer> used() {
            return switch (operation) {
                case Chips.SET, Chips.JUMP, Chips.CALL, Chips.HALT, Chips.NOP -> List.of();
                case Chips.ADDN, Chips.LOAD, Chips.BACK -> List.of(s);
                default -> List.of(s, t);
            };
        }
    }

    private final int[][] instructions = new int[64][];
    private final int[] data = new int[32];
    private final int[] registers = new int[16];
    private final int[] counters = new int[8];
    private final Going[] in = new Going[5];
    private final List<Integer> latest = new ArrayList<>();
    private final int[] counts = new int[9];
    private int handler;

    PlainChip() {
        Arrays.fill(instructions, Chips.nop());
        Arrays.fill(counters, 1);
    }

    void put(int place, int operation, int d, int s, int t, int n) {
        index(place, 0, 63);
        argument(operation >= 0 && operation <= 19);
        argument(d >= 0 && d <= 15 && s >= 0 && s <= 15 && t >= 0 && t <= 15);
        argument(n >= -64 && n <= 63);
        instructions[place] = new int[] {operation, d, s, t, n};
    }

    int poke(int word, int v) {
        int was = peek(word);
        data[word] = v;
        return was;
    }

    int peek(int word) {
        index(word, 0, 31);
        return data[word];
    }

    int set(int register, int v) {
        index(register, 1, 15);
        int was = registers[register];
        registers[register] = v;
        return was;
    }

    int register(int which) {
        index(which, 0, 15);
        return registers[which];
    }

    void start(int place) {
        index(place, 0, 63);
        Arrays.fill(in, null);
        counts[Chips.WHERE] = place;
        counts[Chips.HALTED] = 0;
    }

    int handler(int place) {
        index(place, 0, 63);
        int was = handler;
        handler = place;
        return was;
    }

    int cycles(int n) {
        argument(n >= 1 && n <= 300);
        int before = latest.size();
        for (int i = 0; i < n; i++) {
            cycle();
        }
        return latest.size() - before;
    }

    int stage(int which) {
        index(which, 0, 4);
        return in[which] == null ? -1 : in[which].place;
    }

    int counter(int which) {
        index(which, 0, 7);
        return counters[which];
    }

    int retired(int i) {
        index(i, 0, Math.min(16, latest.size()) - 1);
        return latest.get(latest.size() - 1 - i);
    }

    int count(int what) {
        argument(what >= 0 && what <= 8);
        return counts[what];
    }

    float pace() {
        return latest.isEmpty() ? 0f : (float) counts[Chips.CYCLES] / (float) latest.size();
    }

    private static void index(int i, int least, int greatest) {
        if (i < least || i > greatest) {
            throw new IndexOutOfBoundsException();
        }
    }

    private static void argument(boolean inBounds) {
        if (!inBounds) {
            throw new IllegalArgumentException();
        }
    }

    private void cycle() {
        if (counts[Chips.HALTED] == 1) {
            return;
        }
        counts[Chips.CYCLES]++;
        Going inMemoryAtFirst = in[MEMORY];
        if (leaves()) {
            return;
        }
        passesMemory();
        if (in[REACHED] != null) {
            isInReached(in[REACHED], inMemoryAtFirst);
        }
        goesOnIfEmpty(READ, REACHED);
        goesOnIfEmpty(FETCHED, READ);
        if (in[FETCHED] == null) {
            fetches(counts[Chips.WHERE]);
        }
    }

    /** (1), and whether the cycle ends. */
    private boolean leaves() {
        Going x = in[WRITTEN];
        in[WRITTEN] = null;
        if (x == null) {
            return false;
        }
        if (x.fault != 0) {
            counts[Chips.FAULTS]++;
            counts[Chips.CAUSE] = x.fault;
            counts[Chips.RETURN] = x.place;
            counts[Chips.WHERE] = handler;
            Arrays.fill(in, null);
            return true;
        }
        if (x.operation == Chips.HALT) {
            Arrays.fill(in, null);
            counts[Chips.HALTED] = 1;
            return true;
        }
        if (x.hasD() && x.d != 0) {
            registers[x.d] = x.value;
        }
        latest.add(x.place);
        counts[Chips.RETIRED]++;
        return false;
    }

    /** (2) */
    private void passesMemory() {
        Going x = in[MEMORY];
        in[MEMORY] = null;
        in[WRITTEN] = x;
        if (x != null && x.fault == 0 && x.operation == Chips.LOAD) {
            x.value = data[x.address];
        }
        if (x != null && x.fault == 0 && x.operation == Chips.STORE) {
            data[x.address] = x.value;
        }
    }

    /** (3) */
    private void isInReached(Going x, Going inMemoryAtFirst) {
        boolean loads = inMemoryAtFirst != null && inMemoryAtFirst.operation == Chips.LOAD && inMemoryAtFirst.fault == 0;
        if (loads && inMemoryAtFirst.d != 0 && x.used().contains(inMemoryAtFirst.d)) {
            counts[Chips.WAITS]++;
            return;
        }
        x.cyclesToWork--;
        if (x.cyclesToWork > 0) {
            counts[Chips.WAITS]++;
            return;
        }
        int s = asAllAheadLeave(x.s);
        int t = asAllAheadLeave(x.t);
        getsFault(x, s, t);
        if (x.fault == 0) {
            getsValue(x, s, t);
            goes(x, s, t);
        }
        in[REACHED] = null;
        in[MEMORY] = x;
    }

    private int asAllAheadLeave(int register) {
        int value = registers[register];
        for (int stage = WRITTEN; stage > REACHED; stage--) {
            Going ahead = in[stage];
            if (ahead != null && ahead.fault == 0 && ahead.hasD() && ahead.d == register && register != 0) {
                value = ahead.value;
            }
        }
        return value;
    }

    private static void getsFault(Going x, int s, int t) {
        if (x.fault == 1) {
            return;
        }
        x.address = s + x.n;
        boolean outside = x.address < 0 || x.address > 31;
        if (x.operation == Chips.CALL) {
            x.fault = 2;
        } else if ((x.operation == Chips.LOAD || x.operation == Chips.STORE) && outside) {
            x.fault = 3;
        } else if (x.operation == Chips.DIV && t == 0) {
            x.fault = 4;
        }
    }

    private static void getsValue(Going x, int s, int t) {
        x.value = switch (x.operation) {
            case Chips.ADD -> s + t;
            case Chips.SUB -> s - t;
            case Chips.AND -> s & t;
            case Chips.OR -> s | t;
            case Chips.XOR -> s ^ t;
            case Chips.SHIFT -> (int) ((long) s << (t & 31));
            case Chips.LESS -> Integer.compare(s, t) < 0 ? 1 : 0;
            case Chips.MUL -> (int) ((long) s * (long) t);
            case Chips.DIV -> (int) ((long) s / (long) t);
            case Chips.ADDN -> s + x.n;
            case Chips.SET -> x.n;
            case Chips.STORE -> t;
            default -> x.place + 1;
        };
    }

    private void goes(Going x, int s, int t) {
        boolean goes = x.operation == Chips.SAME && s == t || x.operation == Chips.OTHER && s != t;
        if (x.isBranch()) {
            int which = x.place % 8;
            counters[which] = goes ? Math.min(3, counters[which] + 1) : Math.max(0, counters[which] - 1);
        }
        int next = x.place + 1;
        if (goes || x.operation == Chips.JUMP) {
            next = x.place + x.n;
        } else if (x.operation == Chips.BACK) {
            next = s + x.n;
        }
        if (next != x.guess) {
            counts[Chips.WRONG_GUESSES]++;
            in[FETCHED] = null;
            in[READ] = null;
            counts[Chips.WHERE] = next;
        }
    }

    /** (4) and (5) */
    private void goesOnIfEmpty(int from, int to) {
        if (in[to] == null) {
            in[to] = in[from];
            in[from] = null;
        }
    }

    /** (6) */
    private void fetches(int where) {
        boolean stands = where >= 0 && where <= 63;
        Going x = new Going(where, stands ? instructions[where] : Chips.nop());
        x.fault = stands ? 0 : 1;
        boolean guessed = x.operation == Chips.JUMP || x.isBranch() && counters[where % 8] >= 2;
        x.guess = guessed ? where + x.n : where + 1;
        counts[Chips.WHERE] = x.guess;
        in[FETCHED] = x;
    }
}
