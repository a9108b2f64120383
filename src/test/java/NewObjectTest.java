/** Promise 1. */
final class NewObjectTest {
    public static void main(String[] args) {
        Check check = new Check();
        showsNothing(check);
        holdsNothingButNops(check);
        standsApartFromOthers(check);
        showsNothingAtEachEdge(check);
        check.end();
    }

    private static void showsNothing(Check check) {
        StageChip chip = new StageChip();
        check.same("registers", Chips.registers(chip), "0 ".repeat(16).trim());
        check.same("data", Chips.data(chip), "0 ".repeat(32).trim());
        check.same("counters", Chips.counters(chip), "11111111");
        check.same("stages", Chips.stages(chip), ". . . . .");
        check.same("counts", Chips.counts(chip), "0 0 0 0 0 0 0 0 0");
        check.same("pace", chip.pace(), 0f);
        check.same("retired(0)", Check.thrownBy(c -> c.retired(0), chip), "IndexOutOfBoundsException");
        check.same("handler that was", chip.handler(5), 0);
    }

    private static void holdsNothingButNops(Check check) {
        StageChip chip = new StageChip();
        for (int i = 1; i < 16; i++) {
            chip.set(i, 50 + i);
        }
        for (int i = 0; i < 32; i++) {
            chip.poke(i, 90 + i);
        }
        String registers = Chips.registers(chip);
        String data = Chips.data(chip);
        check.same("64 NOPs", chip.cycles(69), 64);
        check.same("counts behind them", Chips.counts(chip), "69 64 0 0 0 69 0 0 0");
        check.same("the latest", Chips.retired(chip), "63 62 61 60 59 58 57 56 55 54 53 52 51 50 49 48");
        check.same("behind the last place", chip.cycles(1), 0);
        check.same("counts at the fault", Chips.counts(chip), "70 64 0 0 1 0 1 64 0");
        check.same("registers", Chips.registers(chip), registers);
        check.same("data", Chips.data(chip), data);
        check.same("counters", Chips.counters(chip), "11111111");
    }

    private static void standsApartFromOthers(Check check) {
        StageChip first = Chips.busy();
        StageChip second = new StageChip();
        check.same("a new one beside a busy one", Chips.state(second), Chips.state(new StageChip()));
        String before = Chips.state(first);
        second.poke(3, 9);
        second.cycles(30);
        check.same("a busy one beside a new one", Chips.state(first), before);
    }

    private static void showsNothingAtEachEdge(Check check) {
        StageChip chip = new StageChip();
        check.same("word 0", chip.peek(0), 0);
        check.same("word 31", chip.peek(31), 0);
        check.same("register 0", chip.register(0), 0);
        check.same("register 15", chip.register(15), 0);
        check.same("FETCHED", chip.stage(StageChip.FETCHED), StageChip.NONE);
        check.same("WRITTEN", chip.stage(StageChip.WRITTEN), StageChip.NONE);
        check.same("counter 0", chip.counter(0), 1);
        check.same("counter 7", chip.counter(7), 1);
        check.same("WHERE", chip.count(Chips.WHERE), 0);
        check.same("HANDLER", chip.handler(0), 0);
        check.same("CAUSE", chip.count(Chips.CAUSE), 0);
        check.same("RETURN", chip.count(Chips.RETURN), 0);
        check.same("halted", chip.count(Chips.HALTED), 0);
    }
}
