/**
 * Checks of what stands at a boundary and just outside. Each check makes new objects in a given
 * state. A refused call is made on one of two objects that are alike, and they must stay alike in
 * all that can be seen of them later: the values, the command text and what undo brings back.
 */
final class Boundary {
    private static final int NOTHING_TO_UNDO = -99;

    interface State {
        void build(FreezeCredits x);
    }

    interface Call {
        long on(FreezeCredits x);
    }

    interface NumberCall {
        long on(FreezeCredits x, int value);
    }

    private Boundary() {
    }

    static FreezeCredits made(State state) {
        FreezeCredits x = new FreezeCredits();
        state.build(x);
        return x;
    }

    static void answers(String what, long due, State state, Call call) {
        Check.same(what, due, call.on(made(state)));
    }

    static void refuses(String what, Class<? extends RuntimeException> due, State state, Call call) {
        FreezeCredits x = made(state);
        Check.refused(what, due, x, () -> call.on(x));
        FreezeCredits twin = made(state);
        undoesAlike(what + ", then undo", x, twin);
        runsAlike(what + ", undo, then runCommands", x, twin);

        FreezeCredits y = made(state);
        Check.refused(what, due, y, () -> call.on(y));
        FreezeCredits twinOfY = made(state);
        runsAlike(what + ", then runCommands", y, twinOfY);
        undoesAlike(what + ", runCommands, then undo", y, twinOfY);
    }

    /** The call takes low and high, and refuses what is just outside and what is far away. */
    static void range(String what, Class<? extends RuntimeException> due, State state, int low, int high,
            NumberCall call) {
        takes(what, state, low, call);
        takes(what, state, high, call);
        outside(what, due, state, low, high, call);
    }

    static void outside(String what, Class<? extends RuntimeException> due, State state, int low, int high,
            NumberCall call) {
        int[] values = {low - 1, high + 1, Integer.MIN_VALUE, Integer.MAX_VALUE};
        for (int value : values) {
            refuses(what + " with " + value, due, state, x -> call.on(x, value));
        }
    }

    private static void takes(String what, State state, int value, NumberCall call) {
        FreezeCredits x = made(state);
        Class<?> thrown = null;
        try {
            call.on(x, value);
        } catch (RuntimeException e) {
            thrown = e.getClass();
        }
        if (thrown != null) {
            Check.fail(what + " with " + value + " threw " + thrown);
        }
    }

    private static void runsAlike(String what, FreezeCredits x, FreezeCredits twin) {
        Check.same(what, twin.runCommands(), x.runCommands());
        Check.same(what + ": digest", twin.digest(), x.digest());
    }

    private static void undoesAlike(String what, FreezeCredits x, FreezeCredits twin) {
        for (int undone = 1; undone <= 5; undone++) {
            Check.same(what + " " + undone, undo(twin), undo(x));
            Check.same(what + " " + undone + ": digest", twin.digest(), x.digest());
        }
    }

    private static int undo(FreezeCredits x) {
        try {
            return x.undo();
        } catch (IllegalStateException e) {
            return NOTHING_TO_UNDO;
        }
    }

    static void write(FreezeCredits x, String text) {
        for (int i = 0; i < text.length(); i++) {
            x.type(text.charAt(i));
        }
    }

    static void endWeeks(FreezeCredits x, int weeks) {
        for (int week = 0; week < weeks; week++) {
            x.endWeek();
        }
    }

    // ---- states

    static void empty(FreezeCredits x) {
    }

    /** The last week, in which there are two teams, a change and a loan. */
    static void lastWeek(FreezeCredits x) {
        x.addTeam(50);
        x.addTeam(60);
        x.ask(1, 2);
        endWeeks(x, 39);
        x.lend(1, 0, 10, 39);
        write(x, "done 0;");
    }

    /**
     * Week 2. Change 0 is exempt, 1 done, 2 asked for, 3 faulty, 4 given up, 5 exempt; team 2 owes
     * loan 0, loan 1 is paid back, loan 2 is open. No team earns.
     */
    static void busy(FreezeCredits x) {
        x.set(1, 0);
        x.addTeam(100);
        x.addTeam(30);
        x.addTeam(7);
        x.ask(0, 5);
        x.ask(0, 2);
        x.ask(1, 3);
        x.ask(0, 2);
        x.ask(0, 1);
        x.ask(2, 9);
        x.lend(0, 2, 20, 0);
        x.exempt(5);
        x.make(1, false);
        x.endWeek();
        x.exempt(0);
        x.lend(0, 1, 8, 1);
        x.endWeek();
        x.lend(1, 0, 6, 30);
        x.make(3, true);
        x.giveUp(4);
        x.freeze(4, 6, true);
        write(x, "repay 2 1;week;team 5;");
    }

    /** Six teams, 30 changes that are asked for, 12 open loans and 150 bytes, in week 0. */
    static void full(FreezeCredits x) {
        for (int team = 0; team < 6; team++) {
            x.addTeam(990 + team);
        }
        for (int change = 0; change < 30; change++) {
            x.ask(change % 6, 1 + change * 4 % 9);
        }
        for (int loan = 0; loan < 12; loan++) {
            x.lend(loan % 6, (loan + 1) % 6, 20, loan);
        }
        x.freeze(3, 9, true);
        for (int command = 0; command < 30; command++) {
            write(x, "week;");
        }
    }
}
