import java.util.ArrayList;
import java.util.List;

/**
 * Another way to the same answers, to hold the chip against: it takes the instructions one by one, each whole,
 * and reckons in which cycles its parts happen, with no stages at all.
 *
 * An instruction is fetched in one cycle, begins to work three cycles later at the soonest and the cycle behind
 * its forerunner's last one at the soonest; it stores one cycle behind its own last one and leaves two behind it.
 */
final class Timetable {
    /** What happens in a cycle; later ones of the list are never earlier in time for the same kind. */
    private record Event(int cycle, Kind kind, int a, int b) {
    }

    private enum Kind { WAIT, LEARN, WRONG_GUESS, STORE, RETIRE, WRITE, FAULT, HALT }

    private final int[][] program;
    private final int[] registers;
    private final int[] data;
    private final int handler;
    private final int lastCycle;
    private final List<Event> events = new ArrayList<>();
    private final List<Integer> ends = new ArrayList<>();
    private int place;
    private int fetched = 1;
    private int end;
    private int[] forerunner = Chips.nop();
    private boolean running = true;

    Timetable(int[][] program, int[] registers, int[] data, int handler, int lastCycle) {
        this.program = program;
        this.registers = registers.clone();
        this.data = data.clone();
        this.handler = handler;
        this.lastCycle = lastCycle;
        while (running && end <= lastCycle) {
            oneInstruction();
        }
    }

    private boolean stands(int at) {
        return at >= 0 && at < program.length;
    }

    private int counterAt(int which, int cycle) {
        int value = 1;
        for (Event e : events) {
            if (e.kind == Kind.LEARN && e.a == which && e.cycle <= cycle) {
                value = Math.min(3, Math.max(0, value + e.b));
            }
        }
        return value;
    }

    private int guessOf(int[] x, int at, int cycle) {
        boolean branch = x[0] == Chips.SAME || x[0] == Chips.OTHER;
        boolean goes = x[0] == Chips.JUMP || branch && counterAt(at % 8, cycle) > 1;
        return at + (goes ? x[4] : 1);
    }

    private static boolean uses(int[] x, int register) {
        boolean s = x[0] != Chips.SET && x[0] != Chips.JUMP && x[0] <= Chips.BACK;
        boolean t = x[0] <= Chips.DIV || x[0] >= Chips.STORE && x[0] <= Chips.OTHER;
        return register != 0 && (s && x[2] == register || t && x[3] == register);
    }

    private int faultOf(int[] x) {
        int address = registers[x[2]] + x[4];
        boolean outside = address < 0 || address > 31;
        return switch (x[0]) {
            case Chips.CALL -> 2;
            case Chips.LOAD, Chips.STORE -> outside ? 3 : 0;
            case Chips.DIV -> registers[x[3]] == 0 ? 4 : 0;
            default -> 0;
        };
    }

    private int nextOf(int[] x, int at) {
        boolean equal = registers[x[2]] == registers[x[3]];
        return switch (x[0]) {
            case Chips.JUMP -> at + x[4];
            case Chips.BACK -> registers[x[2]] + x[4];
            case Chips.SAME -> equal ? at + x[4] : at + 1;
            case Chips.OTHER -> equal ? at + 1 : at + x[4];
            default -> at + 1;
        };
    }

    private void oneInstruction() {
        int at = place;
        int[] x = stands(at) ? program[at] : Chips.nop();
        int fault = stands(at) ? faultOf(x) : 1;
        int guess = guessOf(x, at, fetched);
        int first = Math.max(end + 1, fetched + 3);
        int work = x[0] == Chips.MUL ? 3 : x[0] == Chips.DIV ? 6 : 1;
        int loadWait = forerunner[0] == Chips.LOAD && uses(x, forerunner[1]) ? 1 : 0;
        end = first + loadWait + work - 1;
        ends.add(end);
        for (int cycle = first; cycle < end; cycle++) {
            events.add(new Event(cycle, Kind.WAIT, 0, 0));
        }
        if (fault != 0 || x[0] == Chips.HALT) {
            breakOff(x, at, fault);
            return;
        }
        int next = nextOf(x, at);
        branchAt(x, at, next, guess, end);
        effect(x, at);
        follow(next, next != guess);
        forerunner = x;
    }

    private void branchAt(int[] x, int at, int next, int guess, int cycle) {
        if (x[0] == Chips.SAME || x[0] == Chips.OTHER) {
            boolean went = (registers[x[2]] == registers[x[3]]) == (x[0] == Chips.SAME);
            events.add(new Event(cycle, Kind.LEARN, at % 8, went ? 1 : -1));
        }
        if (next != guess) {
            events.add(new Event(cycle, Kind.WRONG_GUESS, 0, 0));
        }
    }

    private void effect(int[] x, int at) {
        int s = registers[x[2]];
        int t = registers[x[3]];
        events.add(new Event(end + 2, Kind.RETIRE, at, 0));
        if (x[0] == Chips.STORE) {
            data[s + x[4]] = t;
            events.add(new Event(end + 1, Kind.STORE, s + x[4], t));
            return;
        }
        boolean writes = x[0] <= Chips.LOAD || x[0] == Chips.JUMP || x[0] == Chips.BACK;
        if (!writes || x[1] == 0) {
            return;
        }
        int value = switch (x[0]) {
            case Chips.ADD -> s + t;
            case Chips.SUB -> s - t;
            case Chips.AND -> s & t;
            case Chips.OR -> s | t;
            case Chips.XOR -> s ^ t;
            case Chips.SHIFT -> s << (t & 31);
            case Chips.LESS -> s < t ? 1 : 0;
            case Chips.MUL -> (int) ((long) s * t);
            case Chips.DIV -> (int) ((long) s / t);
            case Chips.ADDN -> s + x[4];
            case Chips.SET -> x[4];
            case Chips.LOAD -> data[s + x[4]];
            default -> at + 1;
        };
        registers[x[1]] = value;
        events.add(new Event(end + 2, Kind.WRITE, x[1], value));
    }

    /** The fetch of the next waits until its forerunner of three before has left REACHED. */
    private void follow(int next, boolean wrongGuess) {
        place = next;
        if (wrongGuess) {
            fetched = end;
            return;
        }
        int before = ends.size() - 3;
        fetched = Math.max(fetched + 1, before < 0 ? 0 : ends.get(before));
    }

    private void breakOff(int[] x, int at, int fault) {
        int fetchedBehind = Math.max(fetched + 1, ends.size() < 3 ? 0 : ends.get(ends.size() - 3));
        workBehind(at + 1, fetchedBehind);
        if (fault == 0) {
            events.add(new Event(end + 2, Kind.HALT, 0, 0));
            running = false;
            return;
        }
        events.add(new Event(end + 2, Kind.FAULT, fault, at));
        place = handler;
        fetched = end + 3;
        forerunner = Chips.nop();
    }

    /** What stands behind a fault or a HALT has one cycle in REACHED before all stages become empty. */
    private void workBehind(int at, int fetchedBehind) {
        if (!stands(at)) {
            return;
        }
        int[] x = program[at];
        if (x[0] == Chips.MUL || x[0] == Chips.DIV) {
            events.add(new Event(end + 1, Kind.WAIT, 0, 0));
        } else if (faultOf(x) == 0) {
            branchAt(x, at, nextOf(x, at), guessOf(x, at, fetchedBehind), end + 1);
        }
    }

    /** Registers, data, counters, the retired and counts 0 to 4 and 6 to 8, after so many cycles. */
    String stateAfter(int cycle, int[] firstRegisters, int[] firstData) {
        if (cycle > lastCycle) {
            throw new IllegalArgumentException("the timetable ends before that");
        }
        int[] r = firstRegisters.clone();
        int[] d = firstData.clone();
        int[] counts = new int[9];
        List<Integer> retired = new ArrayList<>();
        counts[Chips.CYCLES] = cycle;
        for (Event e : events) {
            if (e.cycle <= cycle) {
                apply(e, r, d, counts, retired);
            }
        }
        StringBuilder told = new StringBuilder();
        join(told, r);
        join(told, d);
        for (int i = 0; i < 8; i++) {
            told.append(counterAt(i, cycle)).append(' ');
        }
        for (int i = 0; i < Math.min(16, retired.size()); i++) {
            told.append(retired.get(retired.size() - 1 - i)).append(' ');
        }
        for (int i = 0; i < counts.length; i++) {
            told.append(i == Chips.WHERE ? "" : counts[i] + " ");
        }
        return told.toString().trim();
    }

    private static void apply(Event e, int[] r, int[] d, int[] counts, List<Integer> retired) {
        switch (e.kind) {
            case WAIT -> counts[Chips.WAITS]++;
            case WRONG_GUESS -> counts[Chips.WRONG_GUESSES]++;
            case STORE -> d[e.a] = e.b;
            case WRITE -> r[e.a] = e.b;
            case RETIRE -> {
                counts[Chips.RETIRED]++;
                retired.add(e.a);
            }
            case FAULT -> {
                counts[Chips.FAULTS]++;
                counts[Chips.CAUSE] = e.a;
                counts[Chips.RETURN] = e.b;
            }
            case HALT -> {
                counts[Chips.HALTED] = 1;
                counts[Chips.CYCLES] = e.cycle;
            }
            default -> { }
        }
    }

    private static void join(StringBuilder told, int[] row) {
        for (int x : row) {
            told.append(x).append(' ');
        }
    }

    /** The same of a chip. */
    static String stateOf(StageChip chip) {
        StringBuilder told = new StringBuilder();
        told.append(Chips.registers(chip)).append(' ').append(Chips.data(chip)).append(' ');
        told.append(Chips.counters(chip).replaceAll("(.)", "$1 "));
        String retired = Chips.retired(chip);
        told.append(retired).append(retired.isEmpty() ? "" : " ");
        for (int i = 0; i <= Chips.HALTED; i++) {
            told.append(i == Chips.WHERE ? "" : chip.count(i) + " ");
        }
        return told.toString().trim();
    }
}
