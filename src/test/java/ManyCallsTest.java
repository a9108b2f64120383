/** 'What it is': an object answers as promised up to its 512th call. */
final class ManyCallsTest {
    private static final int CALLS = 512;

    public static void main(String[] args) {
        Check check = new Check();
        runsAsLongAsCanBe(check);
        faultsAsOftenAsCanBe(check);
        takesAsManyPuts(check);
        refusesAsManyCalls(check);
        check.end();
    }

    /** All calls but three are the longest that there is; the last one tells what they did. */
    private static void runsAsLongAsCanBe(Check check) {
        int all = 300 * (CALLS - 3);
        check.same("cycles", afterAllCallsButOne().count(Chips.CYCLES), all);
        check.same("retired", afterAllCallsButOne().count(Chips.RETIRED), all - 5);
        check.same("entry 0", afterAllCallsButOne().retired(0), 63);
        check.same("entry 15", afterAllCallsButOne().retired(15), 63);
        check.same("pace", afterAllCallsButOne().pace(), (float) all / (float) (all - 5));
        check.same("WHERE", afterAllCallsButOne().count(Chips.WHERE), 63);
        check.same("cycles(300)", afterAllCallsButOne().cycles(300), 300);
    }

    private static StageChip afterAllCallsButOne() {
        StageChip chip = new StageChip();
        chip.put(63, Chips.JUMP, 1, 0, 0, 0);
        chip.start(63);
        for (int i = 0; i < CALLS - 3; i++) {
            chip.cycles(300);
        }
        return chip;
    }

    private static void faultsAsOftenAsCanBe(Check check) {
        StageChip chip = Chips.with(Chips.call());
        for (int i = 0; i < CALLS - 4; i++) {
            chip.cycles(300);
        }
        check.same("faults", chip.count(Chips.FAULTS), 50 * (CALLS - 4));
        check.same("retired", chip.count(Chips.RETIRED), 0);
        check.same("pace", chip.pace(), 0f);
    }

    private static void takesAsManyPuts(Check check) {
        StageChip chip = new StageChip();
        for (int i = 0; i < CALLS - 2; i++) {
            Chips.putAt(chip, 0, Chips.setTo(1, i % 64));
        }
        chip.cycles(6);
        check.same("register 1 by the last put", chip.register(1), (CALLS - 3) % 64);
    }

    private static void refusesAsManyCalls(Check check) {
        StageChip chip = new StageChip();
        String before = Insides.of(chip);
        for (int i = 0; i < CALLS; i++) {
            check.same("call " + i, Check.thrownBy(c -> c.cycles(301), chip), "IllegalArgumentException");
        }
        check.same("nothing changed", Insides.of(chip), before);
    }
}
