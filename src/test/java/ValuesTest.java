/** Promises 12 to 17: team, change, loan, waiting, frozen, whole. */
final class ValuesTest {
    public static void main(String[] args) {
        values();
        valuesRefused();
        faultOfThePresentWeek();
        waiting();
        frozen();
        frozenWeeksFromThePresentOne();
        Check.end();
    }

    /** Two teams of three with changes in every state and loans that are open, overdue and paid. */
    private static FreezeCredits busy() {
        FreezeCredits x = new FreezeCredits();
        x.addTeam(100);
        x.addTeam(30);
        x.addTeam(7);
        x.ask(0, 5);
        x.ask(0, 2);
        x.ask(1, 3);
        x.ask(0, 2);
        x.ask(0, 1);
        x.ask(1, 9);
        x.make(1, false);
        x.endWeek();
        x.freeze(3, 6, true);
        x.exempt(0);
        x.exempt(3);
        x.make(3, true);
        x.giveUp(4);
        x.lend(0, 1, 20, 5);
        x.lend(1, 2, 4, 1);
        x.lend(0, 1, 6, 1);
        x.exempt(5);
        x.repay(0, 5);
        x.lend(1, 0, 22, 39);
        x.endWeek();
        return x;
    }

    private static void values() {
        FreezeCredits x = busy();
        // Team 0: 100, week 0 at the most, 15 and 6 held, 6 and 4 burnt, 20 and 6 lent, 5 back, 22 borrowed, 4 back.
        // Team 1: 30, 4 earned, 20 in, 4 out, 6 in, 27 held, 5 and 22 out, 4 earned, 4 back from team 2, then 6 out.
        // Team 2: 7, 4 earned, 4 in, 4 earned, 4 out.
        int[][] teams = {
            {100 - 15 - 6 - 4 - 20 - 6 + 5 + 22 + 6, 15, 0, 10, 1, 1, 1, 15, 22, 0, 0},
            {30 + 4 + 20 - 4 + 6 - 27 - 5 - 22 + 4 + 4 - 6, 27, 8, 0, 2, 0, 0, 22, 15, 0, 0},
            {7 + 4 + 4 + 4 - 4, 0, 8, 0, 0, 0, 0, 0, 0, 0, 0},
        };
        for (int team = 0; team < 3; team++) {
            for (int what = 0; what < 11; what++) {
                Check.same("team(" + team + ", " + what + ")", teams[team][what], x.team(team, what));
            }
        }
        int[][] changes = {
            {0, 5, 1, 15, 0, -1, 0},
            {0, 2, 2, 0, 0, 0, 0},
            {1, 3, 0, 0, 0, -1, 0},
            {0, 2, 3, 0, 0, 1, 1},
            {0, 1, 4, 0, 0, -1, 0},
            {1, 9, 1, 27, 0, -1, 0},
        };
        for (int change = 0; change < 6; change++) {
            for (int what = 0; what < 7; what++) {
                Check.same("change(" + change + ", " + what + ")", changes[change][what], x.change(change, what));
            }
        }
        int[][] loans = {
            {0, 1, 20, 15, 5, 1},
            {1, 2, 4, 0, 1, 1},
            {0, 1, 6, 0, 1, 1},
            {1, 0, 22, 22, 39, 1},
        };
        for (int loan = 0; loan < 4; loan++) {
            for (int what = 0; what < 6; what++) {
                Check.same("loan(" + loan + ", " + what + ")", loans[loan][what], x.loan(loan, what));
            }
        }
        x.type('a');
        int[] whole = {3, 6, 4, 2, 3, 4, 2, 100, 2, 4, 97, 42, 137, 16, 10, 2, 0, 1};
        for (int what = 0; what < 18; what++) {
            if (what != 10) {
                Check.same("whole(" + what + ")", whole[what], x.whole(what));
            }
        }
        Check.same("free credits of all", x.team(0, 0) + x.team(1, 0) + x.team(2, 0), x.whole(10));
        Check.same("the accounts add up", 137 + 16 - 10, x.whole(10) + x.whole(11));
    }

    private static void valuesRefused() {
        FreezeCredits none = new FreezeCredits();
        Check.refused("no team", Check.INDEX, none, () -> none.team(0, 0));
        Check.refused("no change", Check.INDEX, none, () -> none.change(0, 0));
        Check.refused("no loan", Check.INDEX, none, () -> none.loan(0, 0));
        FreezeCredits x = busy();
        Check.refused("team(-1, -1)", Check.INDEX, x, () -> x.team(-1, -1));
        Check.refused("team(3, 0)", Check.INDEX, x, () -> x.team(3, 0));
        Check.refused("team(3, 11)", Check.INDEX, x, () -> x.team(3, 11));
        Check.refused("team(0, -1)", Check.ARGUMENT, x, () -> x.team(0, -1));
        Check.refused("team(0, 11)", Check.ARGUMENT, x, () -> x.team(0, 11));
        Check.refused("change(-1, 7)", Check.INDEX, x, () -> x.change(-1, 7));
        Check.refused("change(6, 0)", Check.INDEX, x, () -> x.change(6, 0));
        Check.refused("change(0, -1)", Check.ARGUMENT, x, () -> x.change(0, -1));
        Check.refused("change(0, 7)", Check.ARGUMENT, x, () -> x.change(0, 7));
        Check.refused("loan(-1, 6)", Check.INDEX, x, () -> x.loan(-1, 6));
        Check.refused("loan(4, 0)", Check.INDEX, x, () -> x.loan(4, 0));
        Check.refused("loan(0, -1)", Check.ARGUMENT, x, () -> x.loan(0, -1));
        Check.refused("loan(0, 6)", Check.ARGUMENT, x, () -> x.loan(0, 6));
        Check.refused("whole(-1)", Check.ARGUMENT, x, () -> x.whole(-1));
        Check.refused("whole(18)", Check.ARGUMENT, x, () -> x.whole(18));
        Check.refused("whole(MIN)", Check.ARGUMENT, x, () -> x.whole(Integer.MIN_VALUE));
        Check.refused("whole(MAX)", Check.ARGUMENT, x, () -> x.whole(Integer.MAX_VALUE));
    }

    private static void faultOfThePresentWeek() {
        FreezeCredits x = new FreezeCredits();
        x.addTeam(9);
        x.addTeam(9);
        x.ask(1, 1);
        x.ask(1, 1);
        x.make(0, false);
        Check.same("no fault yet", 0, x.team(1, 10));
        x.make(1, true);
        Check.same("a fault", 1, x.team(1, 10));
        Check.same("none of the other team", 0, x.team(0, 10));
        x.endWeek();
        Check.same("none in the next week", 0, x.team(1, 10));
        Check.same("faulty changes", 1, x.team(1, 6));
    }

    private static void waiting() {
        FreezeCredits x = new FreezeCredits();
        x.addTeam(99);
        x.addTeam(99);
        Check.same("none", -1, x.waiting(0));
        int[] risks = {5, 9, 1, 5, 1, 9, 2};
        for (int i = 0; i < risks.length; i++) {
            x.ask(i % 2, risks[i]);
        }
        same("all", x, 2, 4, 6, 0, 3, 1, 5);
        x.exempt(0);
        x.exempt(5);
        same("exempt ones stay", x, 2, 4, 6, 0, 3, 1, 5);
        x.giveUp(2);
        x.make(0, false);
        x.make(5, true);
        same("made and given up ones go", x, 4, 6, 3, 1);
        x.ask(0, 1);
        x.ask(0, 8);
        same("new ones come", x, 4, 7, 6, 3, 8, 1);
        x.undo();
        x.undo();
        x.undo();
        same("undo", x, 4, 6, 3, 1, 5);
        Check.refused("waiting(-1)", Check.ARGUMENT, x, () -> x.waiting(-1));
        Check.refused("waiting(MIN)", Check.ARGUMENT, x, () -> x.waiting(Integer.MIN_VALUE));
        Check.same("waiting(30)", -1, x.waiting(30));
        Check.same("waiting(MAX)", -1, x.waiting(Integer.MAX_VALUE));
    }

    private static void same(String what, FreezeCredits x, int... due) {
        for (int index = 0; index < due.length; index++) {
            Check.same(what + ": waiting(" + index + ")", due[index], x.waiting(index));
        }
        Check.same(what + ": behind the last", -1, x.waiting(due.length));
    }

    private static void frozen() {
        FreezeCredits x = new FreezeCredits();
        x.freeze(39, 39, true);
        x.freeze(0, 1, true);
        Check.same("frozen(0)", 1, x.frozen(0));
        Check.same("frozen(1)", 1, x.frozen(1));
        Check.same("frozen(2)", 0, x.frozen(2));
        Check.same("frozen(38)", 0, x.frozen(38));
        Check.same("frozen(39)", 1, x.frozen(39));
        Check.refused("frozen(-1)", Check.ARGUMENT, x, () -> x.frozen(-1));
        Check.refused("frozen(40)", Check.ARGUMENT, x, () -> x.frozen(40));
        Check.refused("frozen(MIN)", Check.ARGUMENT, x, () -> x.frozen(Integer.MIN_VALUE));
        Check.refused("frozen(MAX)", Check.ARGUMENT, x, () -> x.frozen(Integer.MAX_VALUE));
    }

    private static void frozenWeeksFromThePresentOne() {
        FreezeCredits x = new FreezeCredits();
        x.freeze(0, 2, true);
        x.freeze(39, 39, true);
        int[] due = {4, 3, 2, 1, 1};
        for (int week = 0; week < 5; week++) {
            Check.same("frozen weeks in week " + week, due[week], x.whole(9));
            x.endWeek();
        }
    }
}
