/** Promises 3 and 4. */
final class DataTest {
    private static final int[] NO_WORD = {-1, 32, 33, Integer.MIN_VALUE, Integer.MAX_VALUE};

    public static void main(String[] args) {
        Check check = new Check();
        keepsEachWord(check);
        isWhatLoadGets(check);
        isWhatStoreLeft(check);
        holdsAnyInt(check);
        goesOnWhenHalted(check);
        check.takes("poke of word 0", c -> c.poke(0, 5));
        check.takes("poke of word 31", c -> c.poke(31, 5));
        check.onlyTells("peek at word 0", c -> c.peek(0));
        check.onlyTells("peek at word 31", c -> c.peek(31));
        for (int word : NO_WORD) {
            check.throwsIndex("poke of word " + word, c -> c.poke(word, 5));
            check.throwsIndex("peek at word " + word, c -> c.peek(word));
        }
        check.end();
    }

    private static void keepsEachWord(Check check) {
        StageChip chip = new StageChip();
        for (int word = 0; word < 32; word++) {
            check.same("first poke of " + word, chip.poke(word, 1000 + word), 0);
        }
        for (int word = 0; word < 32; word++) {
            check.same("peek at " + word, chip.peek(word), 1000 + word);
            check.same("second poke of " + word, chip.poke(word, Integer.MIN_VALUE + word), 1000 + word);
            check.same("peek again at " + word, chip.peek(word), Integer.MIN_VALUE + word);
        }
    }

    private static void isWhatLoadGets(Check check) {
        for (int before = 0; before <= 5; before++) {
            StageChip chip = Chips.with(Chips.load(1, 0, 31));
            if (before > 0) {
                chip.cycles(before);
            }
            chip.poke(31, 8);
            chip.cycles(6 - before);
            check.same("register 1, poke after " + before + " cycles", chip.register(1), before < 5 ? 8 : 0);
        }
    }

    private static void isWhatStoreLeft(Check check) {
        StageChip chip = Chips.with(Chips.store(1, 0, 31));
        chip.set(1, 44);
        chip.cycles(4);
        check.same("peek before the store went to WRITTEN", chip.peek(31), 0);
        chip.cycles(1);
        check.same("peek behind that", chip.peek(31), 44);
        check.same("poke", chip.poke(31, 45), 44);
        chip.cycles(1);
        check.same("peek when it has retired", chip.peek(31), 45);
    }

    /** Through poke, LOAD, STORE and peek, at the first word and the last. */
    private static void holdsAnyInt(Check check) {
        int[] values = {Integer.MIN_VALUE, -1, 0, 1, Integer.MAX_VALUE};
        for (int value : values) {
            StageChip chip = Chips.with(Chips.load(1, 0, 0), Chips.store(1, 0, 31));
            chip.poke(0, value);
            chip.poke(31, 7);
            chip.cycles(8);
            check.same("register 1", chip.register(1), value);
            check.same("word 31", chip.peek(31), value);
            check.same("poke", chip.poke(31, 5), value);
            check.same("word 0", chip.peek(0), value);
            check.same("word 1", chip.peek(1), 0);
            check.same("word 30", chip.peek(30), 0);
        }
    }

    private static void goesOnWhenHalted(Check check) {
        StageChip chip = Chips.with(Chips.halt());
        chip.cycles(6);
        check.same("poke", chip.poke(31, 4), 0);
        check.same("peek", chip.peek(31), 4);
        check.same("still halted", chip.count(Chips.HALTED), 1);
    }
}
