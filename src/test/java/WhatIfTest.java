/** Promises 18 to 23: reason, exemptible, weeksUntil, lender, nextThaw, inBeing. */
final class WhatIfTest {
    public static void main(String[] args) {
        reason();
        exemptible();
        weeksUntil();
        weeksUntilWithLoans();
        weeksUntilRefused();
        lender();
        lenderRefused();
        nextThaw();
        inBeing();
        nothingChanges();
        Check.end();
    }

    private static void reason() {
        FreezeCredits x = new FreezeCredits();
        Check.refused("reason(0) without changes", Check.INDEX, x, () -> x.reason(0));
        x.set(1, 0);
        x.addTeam(14);
        x.addTeam(50);
        x.ask(0, 5);
        x.ask(0, 4);
        x.ask(0, 1);
        x.ask(0, 1);
        Check.refused("reason(-1)", Check.INDEX, x, () -> x.reason(-1));
        Check.refused("reason(4)", Check.INDEX, x, () -> x.reason(4));
        Check.same("too few credits", 3, x.reason(0));
        Check.same("it can", 0, x.reason(1));
        x.lend(1, 0, 1, 0);
        Check.same("just enough credits", 0, x.reason(0));
        x.exempt(0);
        Check.same("exempt", 1, x.reason(0));
        x.lend(1, 0, 2, 0);
        x.endWeek();
        Check.same("owes", 2, x.reason(1));
        Check.same("owes, whatever the credits", 2, x.reason(2));
        Check.same("exempt is told first", 1, x.reason(0));
        x.make(0, false);
        Check.same("done", 1, x.reason(0));
        Check.same("owes with credits enough", 2, x.reason(1));
        x.make(2, true);
        Check.same("faulty", 1, x.reason(2));
        x.giveUp(3);
        Check.same("given up", 1, x.reason(3));
    }

    private static void exemptible() {
        FreezeCredits x = new FreezeCredits();
        Check.refused("exemptible(0) without teams", Check.INDEX, x, () -> x.exemptible(0));
        x.set(1, 0);
        x.addTeam(20);
        x.addTeam(50);
        Check.refused("exemptible(-1)", Check.INDEX, x, () -> x.exemptible(-1));
        Check.refused("exemptible(2)", Check.INDEX, x, () -> x.exemptible(2));
        Check.same("no changes", 0, x.exemptible(0));
        x.ask(0, 9);
        x.ask(0, 3);
        x.ask(1, 1);
        x.ask(0, 1);
        x.ask(0, 2);
        x.ask(1, 9);
        Check.same("3 and 6 and 9 and not 27 more", 3, x.exemptible(0));
        Check.same("both of team 1", 2, x.exemptible(1));
        x.set(0, 4);
        Check.same("4 and 8 and not 12 more", 2, x.exemptible(0));
        x.exempt(3);
        Check.same("an exempt one is passed over", 1, x.exemptible(0));
        x.set(0, 1);
        x.lend(0, 1, 2, 39);
        Check.same("2 and 3 and 9 with just 14 credits", 3, x.exemptible(0));
        x.lend(0, 1, 1, 39);
        Check.same("2 and 3 and not 9 more with 13", 2, x.exemptible(0));
        x.lend(0, 1, 2, 39);
        x.make(4, false);
        Check.same("a done one is passed over", 1, x.exemptible(0));
        stopsAtTheFirstThatCannot();
        exemptibleOfOneThatOwes();
    }

    private static void stopsAtTheFirstThatCannot() {
        FreezeCredits x = new FreezeCredits();
        x.addTeam(30);
        x.ask(0, 9);
        x.ask(0, 2);
        x.ask(0, 9);
        Check.same("the first one of risk 9 could not", 1, x.exemptible(0));
        x.giveUp(1);
        Check.same("the second one could not", 1, x.exemptible(0));
    }

    private static void exemptibleOfOneThatOwes() {
        FreezeCredits x = new FreezeCredits();
        x.set(1, 0);
        x.addTeam(20);
        x.addTeam(50);
        x.ask(0, 1);
        x.ask(0, 9);
        x.lend(1, 0, 7, 0);
        x.exempt(1);
        x.endWeek();
        x.giveUp(1);
        Check.same("owes", 1, x.team(0, 9));
        Check.same("has credits", 27, x.team(0, 0));
        Check.same("none of one that owes", 0, x.exemptible(0));
        x.repay(0, 7);
        Check.same("one of one that owes no more", 1, x.exemptible(0));
    }

    private static void weeksUntil() {
        FreezeCredits x = new FreezeCredits();
        x.addTeam(26);
        x.addTeam(0);
        Check.same("now", 0, x.weeksUntil(0, 8));
        Check.same("after a week", 1, x.weeksUntil(0, 9));
        Check.same("after one", 1, x.weeksUntil(1, 1));
        Check.same("after seven", 7, x.weeksUntil(1, 9));
        x.set(3, 26);
        Check.same("never above the most", -1, x.weeksUntil(0, 9));
        x.set(3, 27);
        Check.same("just at the most", 1, x.weeksUntil(0, 9));
        x.set(1, 0);
        Check.same("never without earning", -1, x.weeksUntil(0, 9));
        x.set(1, 1);
        x.set(0, 13);
        x.set(3, 2000);
        Check.same("after 39 weeks", 39, x.weeksUntil(1, 3));
        x.set(0, 20);
        Check.same("not within 39 weeks", -1, x.weeksUntil(1, 2));
        x.ask(1, 1);
        x.make(0, true);
        x.set(0, 1);
        Check.same("the present week earns nothing after a fault", 4, x.weeksUntil(1, 3));
        for (int week = 0; week < 38; week++) {
            x.endWeek();
        }
        x.set(0, 19);
        Check.same("one week left, which is enough", 1, x.weeksUntil(1, 2));
        x.set(0, 20);
        Check.same("one week left, which is not", -1, x.weeksUntil(1, 2));
        x.endWeek();
        x.set(0, 19);
        Check.same("in the last week, now", 0, x.weeksUntil(1, 2));
        x.set(0, 20);
        Check.same("in the last week, not", -1, x.weeksUntil(1, 2));
    }

    private static void weeksUntilWithLoans() {
        FreezeCredits x = new FreezeCredits();
        x.addTeam(20);
        x.addTeam(0);
        x.lend(0, 1, 20, 2);
        x.lend(1, 0, 5, 1);
        // Team 0: 5, then 9 and 13 - 5, then 12 + 20.
        Check.same("now", 0, x.weeksUntil(0, 1));
        Check.same("before the loan to it falls due", 1, x.weeksUntil(0, 3));
        Check.same("by the loan from it", 3, x.weeksUntil(0, 4));
        Check.same("by the loan from it", 3, x.weeksUntil(0, 9));
        // Team 1: 15, 19, 28, 12, 16 and so on.
        Check.same("before it pays back", 2, x.weeksUntil(1, 9));
        Check.same("before it pays back", 1, x.weeksUntil(1, 6));
        x.set(0, 4);
        Check.same("long behind it", 9, x.weeksUntil(1, 9));
    }

    private static void weeksUntilRefused() {
        FreezeCredits x = new FreezeCredits();
        Check.refused("weeksUntil(0, 1) without teams", Check.INDEX, x, () -> x.weeksUntil(0, 1));
        x.addTeam(50);
        Check.refused("weeksUntil(-1, 0)", Check.INDEX, x, () -> x.weeksUntil(-1, 0));
        Check.refused("weeksUntil(1, 1)", Check.INDEX, x, () -> x.weeksUntil(1, 1));
        Check.refused("weeksUntil(0, 0)", Check.ARGUMENT, x, () -> x.weeksUntil(0, 0));
        Check.refused("weeksUntil(0, 10)", Check.ARGUMENT, x, () -> x.weeksUntil(0, 10));
    }

    private static void lender() {
        FreezeCredits x = new FreezeCredits();
        x.addTeam(4);
        Check.same("no other team", -1, x.lender(0, 2));
        x.addTeam(1);
        x.addTeam(30);
        x.addTeam(30);
        x.addTeam(31);
        x.addTeam(31);
        Check.same("it lacks nothing", -1, x.lender(0, 1));
        Check.same("the lowest of the richest", 4, x.lender(0, 2));
        x.lend(4, 5, 2, 39);
        Check.same("the richest", 5, x.lender(0, 2));
        x.lend(5, 1, 33, 39);
        Check.same("the richest with its loan", 1, x.lender(0, 2));
        x.set(0, 4);
        Check.same("not itself", 2, x.lender(1, 9));
        x.lend(1, 5, 2, 39);
        Check.same("just enough", 1, x.lender(0, 9));
        x.lend(1, 5, 1, 39);
        Check.same("just too few", -1, x.lender(0, 9));
        Check.same("enough for a lower risk", 1, x.lender(0, 8));
        x.set(0, 1);
        Check.same("lacks nothing by the new price", -1, x.lender(0, 4));
        Check.same("lacks one", 1, x.lender(0, 5));
        for (int loan = x.whole(2); loan < 12; loan++) {
            x.lend(2, 3, 1, 39);
        }
        Check.same("with 12 loans too, of which team 3 took eight", 3, x.lender(0, 5));
        lenderOfOneThatOwes();
        lenderOfMoreThanALoan();
    }

    private static void lenderOfOneThatOwes() {
        FreezeCredits x = new FreezeCredits();
        x.set(1, 0);
        x.addTeam(10);
        x.addTeam(50);
        x.ask(0, 1);
        x.lend(1, 0, 2, 0);
        x.set(0, 12);
        x.exempt(0);
        Check.same("a lender before it owes", 1, x.lender(0, 1));
        x.endWeek();
        Check.same("none for one that owes", -1, x.lender(0, 1));
        Check.same("one that owes could lend", -1, x.lender(1, 1));
        x.set(0, 20);
        x.giveUp(0);
        x.set(0, 6);
        Check.same("free of one that owes", 12, x.team(0, 0));
        Check.same("one that owes can be the lender", 0, x.lender(1, 9));
    }

    private static void lenderOfMoreThanALoan() {
        FreezeCredits x = new FreezeCredits();
        x.set(0, 20);
        x.addTeam(0);
        x.addTeam(999);
        Check.same("180 credits", 1, x.lender(0, 9));
        x.addTeam(180);
        x.addTeam(0);
        x.lend(1, 0, 300, 39);
        x.lend(1, 0, 500, 39);
        Check.same("team 0 with the most, 1 and 2 with enough", 0, x.lender(3, 9));
    }

    private static void lenderRefused() {
        FreezeCredits x = new FreezeCredits();
        Check.refused("lender(0, 1) without teams", Check.INDEX, x, () -> x.lender(0, 1));
        x.addTeam(50);
        Check.refused("lender(-1, 0)", Check.INDEX, x, () -> x.lender(-1, 0));
        Check.refused("lender(1, 1)", Check.INDEX, x, () -> x.lender(1, 1));
        Check.refused("lender(0, 0)", Check.ARGUMENT, x, () -> x.lender(0, 0));
        Check.refused("lender(0, 10)", Check.ARGUMENT, x, () -> x.lender(0, 10));
    }

    private static void nextThaw() {
        FreezeCredits x = new FreezeCredits();
        x.freeze(0, 2, true);
        Check.same("behind the frozen ones", 3, x.nextThaw());
        x.freeze(1, 1, false);
        Check.same("between them", 1, x.nextThaw());
        x.endWeek();
        Check.same("the present one", 1, x.nextThaw());
        x.endWeek();
        Check.same("a later one", 3, x.nextThaw());
        x.freeze(2, 38, true);
        Check.same("the last one", 39, x.nextThaw());
        x.freeze(39, 39, true);
        Check.same("none", -1, x.nextThaw());
    }

    private static void inBeing() {
        FreezeCredits x = new FreezeCredits();
        Check.same("without teams", 0, x.inBeing(39));
        Check.refused("inBeing(-1)", Check.ARGUMENT, x, () -> x.inBeing(-1));
        Check.refused("inBeing(40)", Check.ARGUMENT, x, () -> x.inBeing(40));
        Check.refused("inBeing(MIN)", Check.ARGUMENT, x, () -> x.inBeing(Integer.MIN_VALUE));
        Check.refused("inBeing(MAX)", Check.ARGUMENT, x, () -> x.inBeing(Integer.MAX_VALUE));
        x.addTeam(90);
        x.addTeam(20);
        x.ask(0, 3);
        x.exempt(0);
        Check.same("now, with held ones", 110, x.inBeing(0));
        Check.same("behind a week", 118, x.inBeing(1));
        Check.same("up to the most, which is of free ones", 110 + 19 + 80, x.inBeing(39));
        x.lend(0, 1, 70, 0);
        Check.same("as the loan goes back, both earn on", 9 + 100 + 40, x.inBeing(5));
        x.ask(1, 2);
        x.make(1, true);
        Check.same("the present week earns nothing after a fault", 106 + 4, x.inBeing(1));
        x.endWeek();
        Check.same("behind 38 weeks", x.whole(11) + 200, x.inBeing(38));
        Check.same("behind 39 weeks", -1, x.inBeing(39));
        Check.refused("inBeing(40) in week 1", Check.ARGUMENT, x, () -> x.inBeing(40));
        for (int week = 1; week < 39; week++) {
            x.endWeek();
        }
        Check.same("in the last week", 209, x.inBeing(0));
        Check.same("behind the last week", -1, x.inBeing(1));
    }

    private static void nothingChanges() {
        FreezeCredits x = new FreezeCredits();
        x.addTeam(30);
        x.addTeam(30);
        x.ask(0, 2);
        x.lend(0, 1, 20, 3);
        long digest = x.digest();
        x.reason(0);
        x.exemptible(0);
        x.weeksUntil(0, 9);
        x.lender(0, 9);
        x.nextThaw();
        x.inBeing(39);
        Check.same("digest", digest, x.digest());
        Check.same("states on the stack", 3, x.undo());
    }
}
