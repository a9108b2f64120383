/** What the tests share: they tell here what is not as due, and end with it. */
final class Check {
    /** A call that may throw. */
    interface Call {
        void on(StageChip chip);
    }

    private int wrong;

    void same(String what, long got, long want) {
        if (got != want) {
            tell(what + " answered " + got + ", due is " + want);
        }
    }

    void same(String what, boolean got, boolean want) {
        same(what, String.valueOf(got), String.valueOf(want));
    }

    void same(String what, float got, float want) {
        if (got != want) {
            tell(what + " answered " + got + ", due is " + want);
        }
    }

    void same(String what, String got, String want) {
        if (!got.equals(want)) {
            tell(what + " answered\n    " + got + "\n  due is\n    " + want);
        }
    }

    void throwsIndex(String what, Call call) {
        refused(what, call, IndexOutOfBoundsException.class);
    }

    void throwsArgument(String what, Call call) {
        refused(what, call, IllegalArgumentException.class);
    }

    /** In each state, the call throws just this, and the chip goes on as one that was not called. */
    private void refused(String what, Call call, Class<?> due) {
        StageChip[] called = Chips.inEachState();
        StageChip[] left = Chips.inEachState();
        for (int i = 0; i < called.length; i++) {
            String here = what + " in state " + i;
            refusedBy(here, call, due, called[i]);
            same(here + " changes nothing", Chips.state(called[i]), Chips.state(left[i]));
            called[i].cycles(25);
            left[i].cycles(25);
            same(here + " changes nothing that shows later", Chips.state(called[i]), Chips.state(left[i]));
            same(here + " leaves the handler", called[i].handler(0), left[i].handler(0));
        }
    }

    private void refusedBy(String what, Call call, Class<?> due, StageChip chip) {
        String before = Insides.of(chip);
        same(what + " throws", thrownBy(call, chip), due.getSimpleName());
        same(what + " changes nothing inside", Insides.of(chip), before);
    }

    /** In each state, the call answers, and changes nothing. */
    void onlyTells(String what, Call call) {
        StageChip[] called = Chips.inEachState();
        for (int i = 0; i < called.length; i++) {
            String before = Insides.of(called[i]);
            same(what + " in state " + i + " throws", thrownBy(call, called[i]), "nothing");
            same(what + " in state " + i + " changes nothing", Insides.of(called[i]), before);
        }
    }

    /** In each state, the call is taken. */
    void takes(String what, Call call) {
        for (StageChip chip : Chips.inEachState()) {
            same(what + " throws", thrownBy(call, chip), "nothing");
        }
    }

    static String thrownBy(Call call, StageChip chip) {
        try {
            call.on(chip);
            return "nothing";
        } catch (RuntimeException e) {
            return e.getClass().getSimpleName();
        }
    }

    /** Row by row: after each cycle, what is in the stages from FETCHED to WRITTEN. */
    void trace(String what, StageChip chip, String... rows) {
        for (int i = 0; i < rows.length; i++) {
            chip.cycles(1);
            same(what + ", stages after cycle " + (i + 1), Chips.stages(chip), rows[i]);
        }
    }

    void end() {
        if (wrong > 0) {
            System.out.println(wrong + " wrong");
            System.exit(1);
        }
    }

    private void tell(String text) {
        wrong++;
        System.out.println("  " + text);
    }
}
