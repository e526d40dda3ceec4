/** Promises 10 and 11: lend, repay. */
final class LoansTest {
    public static void main(String[] args) {
        lend();
        lendRefused();
        lendToOneThatOwes();
        twoTeamsThatOwe();
        lendAtMostTwelve();
        repay();
        repayRefused();
        Check.end();
    }

    private static void lend() {
        FreezeCredits x = new FreezeCredits();
        x.addTeam(999);
        x.addTeam(10);
        x.endWeek();
        Check.same("lend(0, 1, 500, 39)", 0, x.lend(0, 1, 500, 39));
        Check.same("lend(1, 0, 1, 1)", 1, x.lend(1, 0, 1, 1));
        int[][] due = {{0, 1, 500, 500, 39, 1}, {1, 0, 1, 1, 1, 1}};
        for (int loan = 0; loan < 2; loan++) {
            for (int what = 0; what < 6; what++) {
                Check.same("loan(" + loan + ", " + what + ")", due[loan][what], x.loan(loan, what));
            }
        }
        Check.same("free of team 0", 500, x.team(0, 0));
        Check.same("free of team 1", 513, x.team(1, 0));
        Check.same("the last credit", 2, x.lend(0, 1, 500, 2));
        Check.same("free of team 0", 0, x.team(0, 0));
        Check.same("in being", 1013, x.inBeing(0));
        Check.same("undo of lend", 3, x.undo());
        Check.same("loans after undo", 2, x.whole(2));
        Check.same("free after undo", 500, x.team(0, 0));
    }

    private static void lendRefused() {
        FreezeCredits x = new FreezeCredits();
        Check.refused("lend without teams", Check.INDEX, x, () -> x.lend(0, 0, 1, 1));
        x.addTeam(20);
        x.addTeam(600);
        x.endWeek();
        Check.refused("lend(-1, 0)", Check.INDEX, x, () -> x.lend(-1, 0, 0, 1));
        Check.refused("lend(2, 0)", Check.INDEX, x, () -> x.lend(2, 0, 1, 1));
        Check.refused("lend(0, -1)", Check.INDEX, x, () -> x.lend(0, -1, 1, 40));
        Check.refused("lend(0, 2)", Check.INDEX, x, () -> x.lend(0, 2, 1, 1));
        Check.refused("lend(2, 2)", Check.INDEX, x, () -> x.lend(2, 2, 1, 1));
        Check.refused("lend(0, 0)", Check.ARGUMENT, x, () -> x.lend(0, 0, 1, 1));
        Check.refused("lend of 0", Check.ARGUMENT, x, () -> x.lend(0, 1, 0, 1));
        Check.refused("lend of 501", Check.ARGUMENT, x, () -> x.lend(1, 0, 501, 1));
        Check.refused("lend of 501 in the past", Check.ARGUMENT, x, () -> x.lend(1, 0, 501, 0));
        Check.refused("lend until -1", Check.ARGUMENT, x, () -> x.lend(1, 0, 1, -1));
        Check.refused("lend until 40", Check.ARGUMENT, x, () -> x.lend(1, 0, 1, 40));
        Check.refused("lend until a past week", Check.STATE, x, () -> x.lend(1, 0, 1, 0));
        Check.refused("more than is free", Check.STATE, x, () -> x.lend(0, 1, 25, 1));
        Check.same("all that is free", 0, x.lend(0, 1, 24, 1));
    }

    private static void lendToOneThatOwes() {
        FreezeCredits x = new FreezeCredits();
        x.set(1, 0);
        x.addTeam(20);
        x.addTeam(20);
        x.addTeam(0);
        x.ask(2, 3);
        x.lend(0, 2, 10, 0);
        x.exempt(0);
        x.lend(1, 2, 1, 0);
        Check.same("it does not owe in the week in which it is due", 0, x.team(2, 9));
        x.endWeek();
        Check.same("left of loan 0", 8, x.loan(0, 3));
        Check.same("left of loan 1", 1, x.loan(1, 3));
        Check.same("it owes", 1, x.team(2, 9));
        Check.same("teams that owe", 1, x.whole(16));
        Check.refused("lend to one that owes", Check.STATE, x, () -> x.lend(0, 2, 1, 5));
        x.giveUp(0);
        Check.same("one that owes may lend", 2, x.lend(2, 0, 1, 5));
        x.undo();
        x.repay(0, 8);
        Check.same("it owes still", 1, x.team(2, 9));
        x.repay(1, 1);
        Check.same("it owes no more", 0, x.team(2, 9));
        Check.same("teams that owe", 0, x.whole(16));
        Check.same("lend to it again", 2, x.lend(0, 2, 1, 5));
    }

    private static void twoTeamsThatOwe() {
        FreezeCredits x = new FreezeCredits();
        x.set(1, 0);
        x.addTeam(0);
        x.addTeam(50);
        x.addTeam(0);
        x.lend(1, 0, 9, 0);
        x.lend(1, 2, 9, 0);
        x.ask(0, 3);
        x.ask(2, 3);
        x.exempt(0);
        x.exempt(1);
        x.endWeek();
        Check.same("team 0 owes", 1, x.team(0, 9));
        Check.same("team 1 does not", 0, x.team(1, 9));
        Check.same("team 2 owes", 1, x.team(2, 9));
        Check.same("teams that owe", 2, x.whole(16));
    }

    private static void lendAtMostTwelve() {
        FreezeCredits x = new FreezeCredits();
        x.addTeam(20);
        x.addTeam(20);
        for (int loan = 0; loan < 12; loan++) {
            Check.same("lend", loan, x.lend(loan % 2, 1 - loan % 2, 1, 0));
        }
        Check.refused("a 13th loan", Check.STATE, x, () -> x.lend(0, 1, 1, 0));
        x.repay(0, 1);
        Check.refused("a 13th loan after one was paid back", Check.STATE, x, () -> x.lend(0, 1, 1, 0));
        Check.same("open loans", 11, x.whole(3));
    }

    private static void repay() {
        FreezeCredits x = new FreezeCredits();
        x.addTeam(600);
        x.addTeam(0);
        x.lend(0, 1, 500, 9);
        Check.same("repay(0, 1)", 499, x.repay(0, 1));
        Check.same("amount", 500, x.loan(0, 2));
        Check.same("left", 499, x.loan(0, 3));
        Check.same("free of the lender", 101, x.team(0, 0));
        Check.same("free of the borrower", 499, x.team(1, 0));
        Check.same("repay(0, 499)", 0, x.repay(0, 499));
        Check.same("open loans", 0, x.whole(3));
        Check.same("loans", 1, x.whole(2));
        Check.same("undo of repay", 3, x.undo());
        Check.same("left after undo", 499, x.loan(0, 3));
        Check.same("free of the borrower after undo", 499, x.team(1, 0));
        x.undo();
        Check.same("all at once", 0, x.repay(0, 500));
    }

    private static void repayRefused() {
        FreezeCredits x = new FreezeCredits();
        Check.refused("repay without loans", Check.INDEX, x, () -> x.repay(0, 1));
        x.addTeam(20);
        x.addTeam(0);
        x.lend(0, 1, 15, 3);
        Check.refused("repay(-1, 0)", Check.INDEX, x, () -> x.repay(-1, 0));
        Check.refused("repay(1, 1)", Check.INDEX, x, () -> x.repay(1, 1));
        Check.refused("repay(0, 0)", Check.ARGUMENT, x, () -> x.repay(0, 0));
        Check.refused("repay(0, -1)", Check.ARGUMENT, x, () -> x.repay(0, -1));
        Check.refused("repay(0, 501)", Check.ARGUMENT, x, () -> x.repay(0, 501));
        Check.refused("repay(0, 16)", Check.STATE, x, () -> x.repay(0, 16));
        x.ask(1, 1);
        x.exempt(0);
        Check.refused("more than is free", Check.STATE, x, () -> x.repay(0, 13));
        Check.same("all that is free", 3, x.repay(0, 12));
        x.giveUp(0);
        x.addTeam(50);
        x.lend(2, 1, 50, 3);
        Check.refused("more than is left", Check.STATE, x, () -> x.repay(0, 4));
        Check.same("all that is left", 0, x.repay(0, 3));
        Check.refused("repay of a loan that is not open", Check.STATE, x, () -> x.repay(0, 1));
    }
}
