import java.lang.reflect.InvocationTargetException;
import java.lang.reflect.Method;
import java.util.Arrays;
import java.util.HashMap;
import java.util.Map;

/**
 * Runs of all calls in any order, always the same ones, held against PlainChip: what each call answers or throws, in
 * the midst of the work too, and at a run's end all that can be asked. No run has more than 512 calls.
 */
final class ManyRunsTest {
    private static final int RUNS = 1500;
    private static final int PUTS_AT_FIRST = 30;
    private static final int CALLS = 415;
    private static final int MOST_PLACES = 24;
    private static final int[] NO_INDEX = {-1, 5, 8, 16, 32, 64, Integer.MIN_VALUE, Integer.MAX_VALUE};
    private static final String[] SELDOM = {"poke", "set", "set", "handler", "start", "put"};
    private static final String[] TELLING = {"peek", "register", "stage", "stage", "counter", "retired", "count",
        "count", "pace"};
    private static final Map<String, Method> OF_CHIP = methodsOf(StageChip.class);
    private static final Map<String, Method> OF_PLAIN = methodsOf(PlainChip.class);

    private final Check check;
    private final int run;
    private final StageChip chip = new StageChip();
    private final PlainChip plain = new PlainChip();
    private final Numbers numbers;

    private ManyRunsTest(Check check, int run) {
        this.check = check;
        this.run = run;
        numbers = new Numbers(run);
    }

    public static void main(String[] args) {
        Check check = new Check();
        int[] sums = new int[5];
        int[] causes = new int[5];
        int halted = 0;
        for (int run = 1; run <= RUNS; run++) {
            StageChip chip = new ManyRunsTest(check, run).go();
            for (int what = 0; what < sums.length; what++) {
                sums[what] += chip.count(what);
            }
            causes[chip.count(Chips.CAUSE)]++;
            halted += chip.count(Chips.HALTED);
        }
        for (int what = 0; what < sums.length; what++) {
            check.same("enough of count " + what + " in all: " + sums[what], sums[what] > 5 * RUNS, true);
        }
        for (int cause = 1; cause < causes.length; cause++) {
            check.same("enough of cause " + cause + " at last: " + causes[cause], causes[cause] > RUNS / 100, true);
        }
        check.same("enough that halted: " + halted, halted > RUNS / 20 && halted < RUNS / 2, true);
        check.end();
    }

    private StageChip go() {
        for (int i = 0; i < PUTS_AT_FIRST; i++) {
            hold("put", someArguments("put"));
        }
        for (int i = PUTS_AT_FIRST; i < CALLS; i++) {
            String name = someName();
            hold(name, below(30) == 0 ? wrongArguments(name) : someArguments(name));
        }
        askAll("peek", 32);
        askAll("register", 16);
        askAll("stage", 5);
        askAll("counter", 8);
        askAll("retired", 16);
        askAll("count", 9);
        hold("pace", new Object[0]);
        return chip;
    }

    private void askAll(String name, int size) {
        for (int i = 0; i < size; i++) {
            hold(name, new Object[] {i});
        }
    }

    private void hold(String name, Object[] arguments) {
        String got = answer(OF_CHIP.get(name), chip, arguments);
        String due = answer(OF_PLAIN.get(name), plain, arguments);
        if (!got.equals(due)) {
            check.same("run " + run + ": " + name + Arrays.toString(arguments), got, due);
        }
    }

    private static Map<String, Method> methodsOf(Class<?> face) {
        Map<String, Method> found = new HashMap<>();
        for (Method method : face.getDeclaredMethods()) {
            found.put(method.getName(), method);
        }
        return found;
    }

    /** What the call answers, or the name of what it throws. */
    private static String answer(Method method, Object on, Object[] arguments) {
        try {
            return String.valueOf(method.invoke(on, arguments));
        } catch (InvocationTargetException e) {
            return e.getCause().getClass().getSimpleName();
        } catch (IllegalAccessException e) {
            throw new IllegalStateException(e);
        }
    }

    private String someName() {
        int kind = below(10);
        if (kind < 4) {
            return "cycles";
        }
        return kind < 6 ? SELDOM[below(SELDOM.length)] : TELLING[below(TELLING.length)];
    }

    private Object[] someArguments(String name) {
        return switch (name) {
            case "put" -> someInstruction();
            case "poke" -> new Object[] {below(32), someNumber()};
            case "set" -> new Object[] {below(7), someNumber()};
            case "start", "handler" -> new Object[] {below(40) == 0 ? 63 : below(MOST_PLACES)};
            case "cycles" -> new Object[] {1 + below(below(40) == 0 ? 300 : 4)};
            case "peek" -> new Object[] {below(32)};
            case "register" -> new Object[] {below(7)};
            case "stage" -> new Object[] {below(5)};
            case "counter" -> new Object[] {below(8)};
            case "retired" -> new Object[] {below(17)};
            case "count" -> new Object[] {below(9)};
            default -> new Object[0];
        };
    }

    /** One argument of those that would do, made another; what is due then, PlainChip says. */
    private Object[] wrongArguments(String name) {
        Object[] arguments = someArguments(name);
        if (arguments.length > 0) {
            int which = name.equals("poke") || name.equals("set") ? 0 : below(arguments.length);
            arguments[which] = NO_INDEX[below(NO_INDEX.length)];
        }
        return arguments;
    }

    private Object[] someInstruction() {
        int n = below(8) == 0 ? below(128) - 64 : below(12) - 4;
        int operation = below(20);
        if ((operation == Chips.HALT || operation == Chips.CALL) && below(3) > 0) {
            operation = Chips.LOAD;
        }
        return new Object[] {below(MOST_PLACES), operation, below(5), below(5), below(5), n};
    }

    private int someNumber() {
        return below(9) == 0 ? below(Integer.MAX_VALUE) * (below(2) * 2 - 1) : below(28) - 3;
    }

    private int below(int bound) {
        return numbers.below(bound);
    }
}
