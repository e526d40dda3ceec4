/** Promises 1 to 5: a new object, addTeam, freeze, set, endWeek. */
final class TeamsAndWeeksTest {
    public static void main(String[] args) {
        newObject();
        addTeam();
        addTeamRefused();
        freeze();
        freezeRefused();
        set();
        setRefused();
        endWeekEarns();
        endWeekAfterFault();
        endWeekCollectsLoans();
        endWeekRefused();
        Check.end();
    }

    private static void newObject() {
        FreezeCredits x = new FreezeCredits();
        int[] due = {0, 0, 0, 0, 3, 4, 2, 100, 0, 0, 0, 0, 0, 0, 0, 0, 0, 0};
        for (int what = 0; what < due.length; what++) {
            Check.same("new: whole(" + what + ")", due[what], x.whole(what));
        }
        for (int week = 0; week < 40; week++) {
            Check.same("new: frozen(" + week + ")", 0, x.frozen(week));
        }
        Check.same("new: waiting(0)", -1, x.waiting(0));
        Check.same("new: nextThaw", 0, x.nextThaw());
        Check.refused("new: undo", Check.STATE, x, () -> x.undo());
    }

    private static void addTeam() {
        FreezeCredits x = new FreezeCredits();
        Check.same("addTeam(0)", 0, x.addTeam(0));
        Check.same("addTeam(999)", 1, x.addTeam(999));
        Check.same("free of team 0", 0, x.team(0, 0));
        Check.same("free of team 1", 999, x.team(1, 0));
        Check.same("teams", 2, x.whole(0));
        Check.same("brought in", 999, x.whole(12));
        Check.same("undo of addTeam", 1, x.undo());
        Check.same("teams after undo", 1, x.whole(0));
        Check.same("addTeam(5) after undo", 1, x.addTeam(5));
        Check.same("free of the team added after undo", 5, x.team(1, 0));
        Check.same("brought in after undo", 5, x.whole(12));
    }

    private static void addTeamRefused() {
        FreezeCredits x = new FreezeCredits();
        for (int team = 0; team < 6; team++) {
            Check.refused("addTeam(-1)", Check.ARGUMENT, x, () -> x.addTeam(-1));
            Check.refused("addTeam(1000)", Check.ARGUMENT, x, () -> x.addTeam(1000));
            Check.same("addTeam", team, x.addTeam(team));
        }
        Check.refused("a seventh team", Check.STATE, x, () -> x.addTeam(0));
        Check.refused("a seventh team with -1", Check.ARGUMENT, x, () -> x.addTeam(-1));
        Check.refused("addTeam(MIN)", Check.ARGUMENT, x, () -> x.addTeam(Integer.MIN_VALUE));
        Check.refused("addTeam(MAX)", Check.ARGUMENT, x, () -> x.addTeam(Integer.MAX_VALUE));
    }

    private static void freeze() {
        FreezeCredits x = new FreezeCredits();
        Check.same("freeze(0, 0)", 1, x.freeze(0, 0, true));
        Check.same("freeze(2, 5)", 5, x.freeze(2, 5, true));
        Check.same("freeze(4, 7)", 7, x.freeze(4, 7, true));
        Check.same("thaw(3, 3)", 6, x.freeze(3, 3, false));
        Check.same("frozen(0)", 1, x.frozen(0));
        Check.same("frozen(1)", 0, x.frozen(1));
        Check.same("frozen(2)", 1, x.frozen(2));
        Check.same("frozen(3)", 0, x.frozen(3));
        Check.same("frozen(7)", 1, x.frozen(7));
        Check.same("frozen(8)", 0, x.frozen(8));
        x.endWeek();
        Check.same("a past week counts", 7, x.freeze(39, 39, true));
        Check.same("freeze(1, 39)", 40, x.freeze(1, 39, true));
        Check.same("thaw(1, 39)", 1, x.freeze(1, 39, false));
        Check.same("undo of thaw", 3, x.undo());
        Check.same("frozen weeks after undo", 39, x.whole(9));
    }

    private static void freezeRefused() {
        FreezeCredits x = new FreezeCredits();
        x.freeze(0, 3, true);
        x.endWeek();
        x.endWeek();
        Check.refused("freeze(-1, 3)", Check.ARGUMENT, x, () -> x.freeze(-1, 3, false));
        Check.refused("freeze(40, 40)", Check.ARGUMENT, x, () -> x.freeze(40, 40, true));
        Check.refused("freeze(4, 40)", Check.ARGUMENT, x, () -> x.freeze(4, 40, true));
        Check.refused("freeze(4, 3)", Check.ARGUMENT, x, () -> x.freeze(4, 3, true));
        Check.refused("freeze(4, MIN)", Check.ARGUMENT, x, () -> x.freeze(4, Integer.MIN_VALUE, true));
        Check.refused("freeze(4, MAX)", Check.ARGUMENT, x, () -> x.freeze(4, Integer.MAX_VALUE, true));
        Check.refused("freeze(1, 3) in week 2", Check.STATE, x, () -> x.freeze(1, 3, false));
        Check.refused("freeze(1, 0) in week 2", Check.ARGUMENT, x, () -> x.freeze(1, 0, false));
        Check.refused("freeze(1, 40) in week 2", Check.ARGUMENT, x, () -> x.freeze(1, 40, false));
        Check.same("freeze(2, 2) in week 2", 3, x.freeze(2, 2, false));
    }

    private static void set() {
        int[] first = {3, 4, 2, 100};
        int[] from = {1, 0, 0, 1};
        int[] to = {20, 50, 50, 2000};
        FreezeCredits x = new FreezeCredits();
        for (int i = 0; i < 4; i++) {
            int what = i;
            Check.same("first set", first[what], x.set(what, from[what]));
            Check.same("whole after set", from[what], x.whole(4 + what));
            Check.same("second set", from[what], x.set(what, to[what]));
            Check.same("whole after second set", to[what], x.whole(4 + what));
            Check.refused("set too low", Check.ARGUMENT, x, () -> x.set(what, from[what] - 1));
            Check.refused("set too high", Check.ARGUMENT, x, () -> x.set(what, to[what] + 1));
        }
        Check.same("undo of set", 3, x.undo());
        Check.same("setting after undo", 1, x.whole(7));
    }

    private static void setRefused() {
        FreezeCredits x = new FreezeCredits();
        Check.refused("set(-1, 3)", Check.ARGUMENT, x, () -> x.set(-1, 3));
        Check.refused("set(4, 3)", Check.ARGUMENT, x, () -> x.set(4, 3));
        Check.refused("set(MIN, 3)", Check.ARGUMENT, x, () -> x.set(Integer.MIN_VALUE, 3));
        Check.refused("set(MAX, 3)", Check.ARGUMENT, x, () -> x.set(Integer.MAX_VALUE, 3));
        Check.refused("set(0, MIN)", Check.ARGUMENT, x, () -> x.set(0, Integer.MIN_VALUE));
        Check.refused("set(3, MAX)", Check.ARGUMENT, x, () -> x.set(3, Integer.MAX_VALUE));
    }

    private static void endWeekEarns() {
        FreezeCredits x = new FreezeCredits();
        Check.same("a week without teams", 0, x.endWeek());
        Check.same("present week", 1, x.whole(8));
        x.addTeam(10);
        x.addTeam(97);
        x.addTeam(100);
        x.addTeam(101);
        Check.same("credits earned", 4 + 3, x.endWeek());
        int[] free = {14, 100, 100, 101};
        int[] earned = {4, 3, 0, 0};
        for (int team = 0; team < 4; team++) {
            Check.same("free of team " + team, free[team], x.team(team, 0));
            Check.same("earned by team " + team, earned[team], x.team(team, 2));
        }
        x.set(1, 0);
        Check.same("an earning of 0", 0, x.endWeek());
        x.set(1, 50);
        x.set(3, 40);
        Check.same("not more than the most", 26, x.endWeek());
        Check.same("earned in all", 33, x.whole(13));
        Check.same("undo of endWeek", 3, x.undo());
        Check.same("week after undo", 3, x.whole(8));
        Check.same("free after undo", 14, x.team(0, 0));
        Check.same("earned after undo", 7, x.whole(13));
    }

    private static void endWeekAfterFault() {
        FreezeCredits x = new FreezeCredits();
        x.addTeam(10);
        x.addTeam(10);
        x.ask(0, 1);
        x.ask(1, 1);
        x.make(0, true);
        x.make(1, false);
        Check.same("only the team without a fault earns", 4, x.endWeek());
        Check.same("free of the faulty team", 8, x.team(0, 0));
        Check.same("free of the other team", 14, x.team(1, 0));
        Check.same("both earn a week later", 8, x.endWeek());
    }

    private static void endWeekCollectsLoans() {
        FreezeCredits x = new FreezeCredits();
        x.set(1, 0);
        x.addTeam(50);
        x.addTeam(0);
        x.addTeam(0);
        x.addTeam(50);
        x.lend(0, 1, 10, 1);
        x.lend(3, 1, 10, 0);
        x.lend(0, 1, 10, 0);
        x.lend(1, 2, 15, 5);
        Check.same("free before", 15, x.team(1, 0));
        x.endWeek();
        Check.same("loan 1 is due first, by its number", 0, x.loan(1, 3));
        Check.same("loan 2 as far as it goes", 5, x.loan(2, 3));
        Check.same("loan 0 is not due yet", 10, x.loan(0, 3));
        Check.same("free of the borrower", 0, x.team(1, 0));
        Check.same("free of lender 0", 35, x.team(0, 0));
        Check.same("free of lender 3", 50, x.team(3, 0));
        Check.same("it owes", 1, x.team(1, 9));
        x.set(1, 7);
        x.endWeek();
        Check.same("the older loan is paid first, of what was earned just now", 0, x.loan(2, 3));
        Check.same("then the newer one", 8, x.loan(0, 3));
        Check.same("free of team 0", 35 + 7 + 7, x.team(0, 0));
        x.set(1, 0);
        x.repay(3, 1);
        x.endWeek();
        Check.same("what was given back goes on", 7, x.loan(0, 3));
        passedOnInOneWeek();
    }

    private static void passedOnInOneWeek() {
        FreezeCredits x = new FreezeCredits();
        x.set(1, 0);
        x.addTeam(20);
        x.addTeam(20);
        x.addTeam(0);
        x.lend(0, 1, 20, 0);
        x.lend(1, 2, 20, 0);
        x.lend(1, 2, 20, 0);
        x.endWeek();
        Check.same("loan 0 meets a borrower without credits", 20, x.loan(0, 3));
        Check.same("loan 1 is paid back", 0, x.loan(1, 3));
        Check.same("loan 2 is paid back", 0, x.loan(2, 3));
        Check.same("team 1 owes", 1, x.team(1, 9));
        x.endWeek();
        Check.same("loan 0 is paid back a week later", 0, x.loan(0, 3));
        Check.same("team 1 does not owe", 0, x.team(1, 9));
    }

    private static void endWeekRefused() {
        FreezeCredits x = new FreezeCredits();
        x.addTeam(0);
        for (int week = 0; week < 39; week++) {
            Check.same("week", week, x.whole(8));
            Check.same("earned", week < 25 ? 4 : 0, x.endWeek());
        }
        Check.refused("endWeek in week 39", Check.STATE, x, () -> x.endWeek());
        Check.same("week", 39, x.whole(8));
    }
}
