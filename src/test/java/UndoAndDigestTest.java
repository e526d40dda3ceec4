/** Promises 27 and 28: undo, digest; and the constant. */
final class UndoAndDigestTest {
    public static void main(String[] args) {
        Check.same("NONE", -1, FreezeCredits.NONE);
        undoRefused();
        keepsFour();
        everyUndoableCall();
        callsThatSaveNothing();
        refusedCallsSaveNothing();
        bringsAllBack();
        digestOfANewObject();
        digestOfAState();
        Check.end();
    }

    private static void undoRefused() {
        FreezeCredits x = new FreezeCredits();
        Check.refused("undo of nothing", Check.STATE, x, () -> x.undo());
        x.addTeam(1);
        Check.same("undo", 0, x.undo());
        Check.refused("undo of nothing more", Check.STATE, x, () -> x.undo());
    }

    private static void keepsFour() {
        FreezeCredits x = new FreezeCredits();
        for (int week = 0; week < 9; week++) {
            x.endWeek();
        }
        for (int left = 3; left >= 0; left--) {
            Check.same("states left", left, x.undo());
            Check.same("week", 5 + left, x.whole(8));
        }
        Check.refused("the older ones are dropped", Check.STATE, x, () -> x.undo());
        x.endWeek();
        x.endWeek();
        x.undo();
        x.endWeek();
        x.endWeek();
        x.endWeek();
        x.endWeek();
        for (int left = 3; left >= 0; left--) {
            Check.same("states left", left, x.undo());
            Check.same("week", 6 + left, x.whole(8));
        }
    }

    private static void everyUndoableCall() {
        FreezeCredits x = new FreezeCredits();
        long start = x.digest();
        x.addTeam(50);
        x.undo();
        Check.same("addTeam", start, x.digest());
        x.addTeam(50);
        x.addTeam(50);
        x.ask(0, 2);
        x.ask(0, 2);
        x.undo();
        x.lend(0, 1, 5, 0);
        int[] calls = {0, 1, 2, 3, 4, 5, 6, 7, 8, 9, 10};
        for (int call : calls) {
            long before = withoutStack(x);
            callNumber(x, call);
            Check.same("states left behind call " + call, 3, x.undo());
            x.set(0, 3);
            Check.same("call " + call, before, withoutStack(x));
        }
    }

    /** The digest with a full stack: what the calls before have left on it does not count. */
    private static long withoutStack(FreezeCredits x) {
        for (int i = 0; i < 4; i++) {
            x.set(0, 3);
        }
        return x.digest();
    }

    private static void callNumber(FreezeCredits x, int call) {
        switch (call) {
            case 0: x.addTeam(3); break;
            case 1: x.freeze(0, 4, true); break;
            case 2: x.set(1, 4); break;
            case 3: x.endWeek(); break;
            case 4: x.ask(0, 1); break;
            case 5: x.exempt(0); break;
            case 6: x.make(0, true); break;
            case 7: x.giveUp(0); break;
            case 8: x.lend(0, 1, 5, 0); break;
            case 9: x.repay(0, 1); break;
            default: x.runCommands(); break;
        }
    }

    private static void callsThatSaveNothing() {
        FreezeCredits x = new FreezeCredits();
        x.addTeam(1);
        x.ask(0, 1);
        x.lend(0, x.addTeam(2), 1, 1);
        x.type('x');
        x.runCommands();
        x.clearCommands();
        x.team(0, 0);
        x.change(0, 0);
        x.loan(0, 0);
        x.waiting(0);
        x.frozen(0);
        x.whole(0);
        x.reason(0);
        x.exemptible(0);
        x.weeksUntil(0, 1);
        x.lender(0, 1);
        x.nextThaw();
        x.inBeing(1);
        x.digest();
        Check.same("states left", 3, x.undo());
        Check.same("loans", 0, x.whole(2));
    }

    private static void refusedCallsSaveNothing() {
        FreezeCredits x = new FreezeCredits();
        x.addTeam(7);
        x.addTeam(8);
        Check.refused("addTeam(-1)", Check.ARGUMENT, x, () -> x.addTeam(-1));
        Check.refused("exempt(0)", Check.INDEX, x, () -> x.exempt(0));
        Check.refused("lend", Check.STATE, x, () -> x.lend(0, 1, 8, 0));
        Check.same("states left", 1, x.undo());
        Check.same("teams", 1, x.whole(0));
        Check.same("free", 7, x.team(0, 0));
    }

    /** Every value of the state differs between the saved state and the one that is undone. */
    private static void bringsAllBack() {
        FreezeCredits x = new FreezeCredits();
        x.addTeam(60);
        x.addTeam(60);
        x.ask(0, 3);
        x.ask(0, 3);
        x.ask(1, 3);
        x.exempt(1);
        x.lend(0, 1, 9, 4);
        String text = "exempt 0;fault 1;done 2;ask 1 1;team 5;freeze 7 9;lend 1 2 4 0;repay 0 3;"
                + "set 0 2;set 1 3;set 2 1;set 3 90;week;week;";
        for (int i = 0; i < text.length(); i++) {
            x.type(text.charAt(i));
        }
        x.set(0, 3);
        long before = x.digest();
        Check.same("run", 14, x.runCommands());
        Check.same("undo", 3, x.undo());
        x.set(0, 3);
        Check.same("digest", before, x.digest());
    }

    private static void digestOfANewObject() {
        long due = 43672;
        int[] whole = {0, 0, 0, 0, 3, 4, 2, 100, 0, 0, 0, 0, 0, 0, 0, 0, 0, 0};
        due = 31 * due;
        for (int value : whole) {
            due = 31 * due + value;
        }
        for (int week = 0; week < 40; week++) {
            due = 31 * due;
        }
        due = 31 * due;
        Check.same("digest of a new object", due, new FreezeCredits().digest());
    }

    private static void digestOfAState() {
        FreezeCredits x = new FreezeCredits();
        x.addTeam(60);
        x.addTeam(20);
        x.ask(0, 3);
        x.ask(1, 2);
        x.ask(0, 9);
        x.ask(0, 3);
        x.ask(0, 1);
        x.exempt(3);
        x.make(1, true);
        x.giveUp(4);
        x.freeze(0, 2, true);
        x.freeze(39, 39, true);
        x.lend(0, 1, 9, 0);
        x.lend(1, 0, 9, 5);
        x.undo();
        x.type('a');
        Check.same("digest", byPublicCalls(x, 3), x.digest());
        x.endWeek();
        Check.same("digest a week later", byPublicCalls(x, 4), x.digest());
        x.freeze(1, 39, true);
        Check.same("digest without a thaw", byPublicCalls(x, 4), x.digest());
    }

    private static long byPublicCalls(FreezeCredits x, int states) {
        long h = 31L * 43672 + states;
        for (int what = 0; what <= 17; what++) {
            h = 31 * h + x.whole(what);
        }
        for (int week = 0; week < 40; week++) {
            h = 31 * h + x.frozen(week);
        }
        for (int team = 0; team < x.whole(0); team++) {
            for (int what = 0; what <= 10; what++) {
                h = 31 * h + x.team(team, what);
            }
            h = 31 * h + x.exemptible(team);
        }
        for (int change = 0; change < x.whole(1); change++) {
            for (int what = 0; what <= 6; what++) {
                h = 31 * h + x.change(change, what);
            }
        }
        for (int index = 0; x.waiting(index) >= 0; index++) {
            h = 31 * h + x.waiting(index);
        }
        for (int loan = 0; loan < x.whole(2); loan++) {
            for (int what = 0; what <= 5; what++) {
                h = 31 * h + x.loan(loan, what);
            }
        }
        return 31 * h + x.nextThaw();
    }
}
