/** The boundary cases that the document names for promises 12 to 23. */
final class BoundaryValuesTest {
    private static final Boundary.State EMPTY = Boundary::empty;
    private static final Boundary.State BUSY = Boundary::busy;
    private static final Boundary.State FULL = Boundary::full;
    private static final Boundary.State LAST_WEEK = Boundary::lastWeek;

    public static void main(String[] args) {
        team();
        teamOwes();
        teamFaulty();
        change();
        loan();
        waiting();
        waitingOfThirty();
        frozen();
        whole();
        wholeOfTheLeastAndTheMost();
        frozenWeeksFromThePresentOne();
        accountsAddUp();
        reason();
        reasonOrder();
        reasonCredits();
        exemptible();
        exemptibleUpToTheLastCredit();
        weeksUntil();
        weeksUntilTheLastWeek();
        lender();
        lenderWithJustEnough();
        lenderOfSeveral();
        nextThaw();
        inBeing();
        inBeingUpToTheLastWeek();
        Check.end();
    }

    // ---- promise 12

    private static void team() {
        Boundary.refuses("team of none", Check.INDEX, EMPTY, x -> x.team(0, 0));
        Boundary.range("team of one", Check.INDEX, x -> x.addTeam(1), 0, 0, (x, team) -> x.team(team, 0));
        Boundary.range("team of six", Check.INDEX, FULL, 0, 5, (x, team) -> x.team(team, 10));
        Boundary.range("what of a team", Check.ARGUMENT, FULL, 0, 10, (x, what) -> x.team(5, what));
        Boundary.outside("team, with what out of range", Check.INDEX, FULL, 0, 5, (x, team) -> x.team(team, 11));
        Boundary.outside("what, without teams", Check.INDEX, EMPTY, 0, 10, (x, what) -> x.team(0, what));
        int[] fresh = {7, 0, 0, 0, 0, 0, 0, 0, 0, 0, 0};
        for (int i = 0; i < fresh.length; i++) {
            int what = i;
            Boundary.answers("value " + what + " of a new team", fresh[what], x -> x.addTeam(7), x -> x.team(0, what));
        }
    }

    private static void teamOwes() {
        FreezeCredits x = new FreezeCredits();
        x.set(1, 0);
        x.addTeam(30);
        x.addTeam(0);
        x.addTeam(0);
        x.lend(0, 1, 10, 1);
        x.lend(1, 2, 10, 1);
        x.ask(2, 1);
        x.set(0, 10);
        x.exempt(0);
        int[] due = {0, 0, 1};
        for (int week = 0; week < 3; week++) {
            Check.same("week " + week + ": the lender", 0, x.team(0, 9));
            Check.same("week " + week + ": the borrower that lends", due[week], x.team(1, 9));
            Check.same("week " + week + ": the borrower", due[week], x.team(2, 9));
            Check.same("week " + week + ": teams that owe", 2 * due[week], x.whole(16));
            x.endWeek();
        }
        x.giveUp(0);
        x.repay(1, 9);
        x.repay(0, 9);
        Check.same("one left: the borrower that lends", 1, x.team(1, 9));
        Check.same("one left: the borrower", 1, x.team(2, 9));
        x.repay(1, 1);
        x.repay(0, 1);
        Check.same("none left: the borrower that lends", 0, x.team(1, 9));
        Check.same("none left: the borrower", 0, x.team(2, 9));
    }

    private static void teamFaulty() {
        FreezeCredits x = new FreezeCredits();
        x.addTeam(90);
        for (int change = 0; change < 3; change++) {
            x.ask(0, 1);
        }
        x.make(0, false);
        x.giveUp(1);
        Check.same("done and given up", 0, x.team(0, 10));
        Boundary.endWeeks(x, 39);
        Check.same("week 39", 0, x.team(0, 10));
        x.make(2, true);
        Check.same("faulty in week 39", 1, x.team(0, 10));
        x.undo();
        Check.same("undone", 0, x.team(0, 10));
    }

    // ---- promise 13

    private static void change() {
        Boundary.refuses("change of none", Check.INDEX, EMPTY, x -> x.change(0, 0));
        Boundary.range("change of one", Check.INDEX, LAST_WEEK, 0, 0, (x, change) -> x.change(change, 6));
        Boundary.range("change of 30", Check.INDEX, FULL, 0, 29, (x, change) -> x.change(change, 0));
        Boundary.range("what of a change", Check.ARGUMENT, FULL, 0, 6, (x, what) -> x.change(29, what));
        Boundary.outside("change, with what out of range", Check.INDEX, FULL, 0, 29, (x, change) -> x.change(change, 7));
        Boundary.outside("what, without changes", Check.INDEX, EMPTY, 0, 6, (x, what) -> x.change(0, what));
        int[][] due = {
            {0, 5, 1, 15, 0, -1, 0},
            {0, 2, 2, 0, 0, 0, 0},
            {1, 3, 0, 0, 0, -1, 0},
            {0, 2, 3, 0, 0, 2, 0},
            {0, 1, 4, 0, 0, -1, 0},
            {2, 9, 1, 27, 0, -1, 0},
        };
        FreezeCredits x = Boundary.made(BUSY);
        for (int change = 0; change < 6; change++) {
            for (int what = 0; what < 7; what++) {
                Check.same("change(" + change + ", " + what + ")", due[change][what], x.change(change, what));
            }
        }
        x.make(0, false);
        x.make(5, true);
        Check.same("exempt when it was done", 1, x.change(0, 6));
        Check.same("exempt when it was faulty", 1, x.change(5, 6));
        Check.same("nothing is held for one done", 0, x.change(0, 3));
        Check.same("nothing is held for a faulty one", 0, x.change(5, 3));
        Boundary.answers("given up behind exempt", 0, BUSY, y -> {
            y.giveUp(0);
            return y.change(0, 6) + y.change(0, 3);
        });
        Boundary.answers("asked for and made in the last week", 3939, LAST_WEEK, y -> {
            y.make(y.ask(0, 1), false);
            return 100 * y.change(1, 4) + y.change(1, 5);
        });
    }

    // ---- promise 14

    private static void loan() {
        Boundary.refuses("loan of none", Check.INDEX, EMPTY, x -> x.loan(0, 0));
        Boundary.range("loan of one", Check.INDEX, LAST_WEEK, 0, 0, (x, loan) -> x.loan(loan, 5));
        Boundary.range("loan of 12", Check.INDEX, FULL, 0, 11, (x, loan) -> x.loan(loan, 0));
        Boundary.range("what of a loan", Check.ARGUMENT, FULL, 0, 5, (x, what) -> x.loan(11, what));
        Boundary.outside("loan, with what out of range", Check.INDEX, FULL, 0, 11, (x, loan) -> x.loan(loan, 6));
        Boundary.outside("what, without loans", Check.INDEX, EMPTY, 0, 5, (x, what) -> x.loan(0, what));
        int[][] due = {{0, 2, 20, 20, 0, 0}, {0, 1, 8, 0, 1, 1}, {1, 0, 6, 6, 30, 2}};
        FreezeCredits x = Boundary.made(BUSY);
        for (int loan = 0; loan < 3; loan++) {
            for (int what = 0; what < 6; what++) {
                Check.same("loan(" + loan + ", " + what + ")", due[loan][what], x.loan(loan, what));
            }
        }
        Boundary.answers("made and due in the last week", 3939, LAST_WEEK, y -> 100 * y.loan(0, 4) + y.loan(0, 5));
    }

    // ---- promise 15

    private static void waiting() {
        int[] negative = {-1, -2, Integer.MIN_VALUE};
        for (int index : negative) {
            Boundary.refuses("waiting(" + index + ") of none", Check.ARGUMENT, EMPTY, x -> x.waiting(index));
            Boundary.refuses("waiting(" + index + ") of 30", Check.ARGUMENT, FULL, x -> x.waiting(index));
        }
        Boundary.answers("the first of none", -1, EMPTY, x -> x.waiting(0));
        Boundary.answers("the first of one", 0, LAST_WEEK, x -> x.waiting(0));
        Boundary.answers("the second of one", -1, LAST_WEEK, x -> x.waiting(1));
        Boundary.answers("the 31st of 30", -1, FULL, x -> x.waiting(30));
        Boundary.answers("the last number of all", -1, FULL, x -> x.waiting(Integer.MAX_VALUE));
        Boundary.answers("the first of none that is left", -1, LAST_WEEK, x -> {
            x.giveUp(0);
            return x.waiting(0);
        });
        int[] due = {2, 0, 5, -1};
        FreezeCredits x = Boundary.made(BUSY);
        for (int index = 0; index < due.length; index++) {
            Check.same("waiting(" + index + ")", due[index], x.waiting(index));
        }
    }

    private static void waitingOfThirty() {
        FreezeCredits x = new FreezeCredits();
        x.addTeam(0);
        for (int change = 0; change < 30; change++) {
            x.ask(0, 9 - change * 4 % 9);
        }
        int index = 0;
        for (int risk = 1; risk <= 9; risk++) {
            for (int change = 0; change < 30; change++) {
                if (x.change(change, 1) == risk) {
                    Check.same("waiting(" + index + ")", change, x.waiting(index));
                    index++;
                }
            }
        }
        Check.same("all wait", 30, index);
        for (int left = 29; left >= 0; left--) {
            x.giveUp(x.waiting(left / 2));
            Check.same("behind the last of " + left, -1, x.waiting(left));
        }
    }

    // ---- promise 16

    private static void frozen() {
        Boundary.range("week", Check.ARGUMENT, EMPTY, 0, 39, FreezeCredits::frozen);
        Boundary.range("week", Check.ARGUMENT, LAST_WEEK, 0, 39, FreezeCredits::frozen);
        for (int i = 0; i < 40; i++) {
            int week = i;
            Boundary.answers("week " + week + " at first", 0, EMPTY, x -> x.frozen(week));
            Boundary.answers("week " + week + " frozen", 1, x -> x.freeze(week, week, true), x -> x.frozen(week));
            Boundary.answers("week " + week + " thawed", 0, x -> {
                x.freeze(0, 39, true);
                x.freeze(week, week, false);
            }, x -> x.frozen(week));
        }
    }

    // ---- promise 17

    private static void whole() {
        Boundary.range("what of the whole", Check.ARGUMENT, EMPTY, 0, 17, FreezeCredits::whole);
        Boundary.range("what of the whole", Check.ARGUMENT, FULL, 0, 17, FreezeCredits::whole);
    }

    private static void wholeOfTheLeastAndTheMost() {
        int[] empty = {0, 0, 0, 0, 3, 4, 2, 100, 0, 0, 0, 0, 0, 0, 0, 0, 0, 0};
        int[] full = {6, 30, 12, 12, 3, 4, 2, 100, 0, 7, 5955, 0, 5955, 0, 0, 0, 0, 150};
        int[] busy = {3, 6, 3, 2, 3, 0, 2, 100, 2, 3, 91, 42, 137, 0, 4, 2, 1, 22};
        for (int i = 0; i < 18; i++) {
            int what = i;
            Boundary.answers("whole(" + what + ") of none", empty[what], EMPTY, x -> x.whole(what));
            Boundary.answers("whole(" + what + ") of a full one", full[what], FULL, x -> x.whole(what));
            Boundary.answers("whole(" + what + ") of a busy one", busy[what], BUSY, x -> x.whole(what));
        }
    }

    private static void frozenWeeksFromThePresentOne() {
        FreezeCredits x = new FreezeCredits();
        x.freeze(0, 39, true);
        for (int week = 0; week < 40; week++) {
            Check.same("in week " + week, 40 - week, x.whole(9));
            if (week < 39) {
                x.endWeek();
            }
        }
        x.freeze(39, 39, false);
        Check.same("none in week 39", 0, x.whole(9));
    }

    /** What was brought in and earned, minus what was burnt, is free or held, whatever is done. */
    private static void accountsAddUp() {
        Boundary.State[] states = {EMPTY, BUSY, FULL, LAST_WEEK};
        for (Boundary.State state : states) {
            for (int calls = 0; calls < 30; calls++) {
                FreezeCredits x = Boundary.made(state);
                for (int call = 0; call < calls; call++) {
                    act(x, call);
                }
                addUp(x);
            }
        }
    }

    private static void act(FreezeCredits x, int call) {
        int change = x.waiting(call % 3);
        if (call % 5 == 4 && x.whole(8) < 39) {
            x.endWeek();
        } else if (change >= 0 && call % 2 == 0 && x.reason(change) == 0) {
            x.exempt(change);
        } else if (change >= 0 && (x.change(change, 2) == 1 || x.frozen(x.whole(8)) == 0)) {
            x.make(change, call % 3 > 0);
        } else if (change >= 0) {
            x.giveUp(change);
        }
    }

    private static void addUp(FreezeCredits x) {
        int inBeing = x.whole(12) + x.whole(13) - x.whole(14);
        Check.same("the credits in being", inBeing, x.whole(10) + x.whole(11));
        Check.same("inBeing(0)", inBeing, x.inBeing(0));
        int[] sums = new int[4];
        for (int team = 0; team < x.whole(0); team++) {
            for (int what = 0; what < 4; what++) {
                sums[what] += x.team(team, what);
            }
        }
        Check.same("free ones of all teams", sums[0], x.whole(10));
        Check.same("held ones of all teams", sums[1], x.whole(11));
        Check.same("earned ones of all teams", sums[2], x.whole(13));
        Check.same("burnt ones of all teams", sums[3], x.whole(14));
    }

    // ---- promise 18

    private static void reason() {
        Boundary.refuses("reason without changes", Check.INDEX, EMPTY, x -> x.reason(0));
        Boundary.range("change", Check.INDEX, LAST_WEEK, 0, 0, FreezeCredits::reason);
        Boundary.range("change", Check.INDEX, FULL, 0, 29, FreezeCredits::reason);
    }

    private static void reasonOrder() {
        int[] due = {1, 1, 0, 1, 1, 1};
        for (int i = 0; i < due.length; i++) {
            int change = i;
            Boundary.answers("reason of " + change, due[change], BUSY, x -> x.reason(change));
        }
        Boundary.answers("its team owes, and has none free", 2, BUSY, x -> x.reason(x.ask(2, 9)));
        Boundary.answers("its team owes, and has enough free", 2, BUSY, x -> {
            x.giveUp(5);
            return x.reason(x.ask(2, 9));
        });
        Boundary.answers("its team owes no more", 0, BUSY, x -> {
            x.giveUp(5);
            x.repay(0, 20);
            return x.reason(x.ask(2, 2));
        });
        Boundary.answers("its team owes no more, but has one too few", 3, BUSY, x -> {
            x.giveUp(5);
            x.repay(0, 20);
            return x.reason(x.ask(2, 3));
        });
    }

    private static void reasonCredits() {
        for (int i = 1; i <= 9; i++) {
            int risk = i;
            for (int j = 1; j <= 20; j += 19) {
                int price = j;
                int credits = risk * price;
                Boundary.answers("just enough for " + credits, 0, x -> oneTeam(x, credits, price),
                        x -> x.reason(x.ask(0, risk)));
                Boundary.answers("one too few for " + credits, 3, x -> oneTeam(x, credits - 1, price),
                        x -> x.reason(x.ask(0, risk)));
            }
        }
    }

    private static void oneTeam(FreezeCredits x, int free, int price) {
        x.addTeam(free);
        x.set(0, price);
    }

    // ---- promise 19

    private static void exemptible() {
        Boundary.refuses("exemptible without teams", Check.INDEX, EMPTY, x -> x.exemptible(0));
        Boundary.range("team", Check.INDEX, x -> x.addTeam(1), 0, 0, FreezeCredits::exemptible);
        Boundary.range("team", Check.INDEX, FULL, 0, 5, FreezeCredits::exemptible);
        Boundary.answers("a team without changes", 0, x -> x.addTeam(999), x -> x.exemptible(0));
        Boundary.answers("a team without credits", 0, x -> x.addTeam(0), x -> {
            x.ask(0, 1);
            return x.exemptible(0);
        });
        Boundary.answers("one that owes", 0, BUSY, x -> {
            x.giveUp(5);
            x.ask(2, 1);
            return x.exemptible(2);
        });
        Boundary.answers("a team with exempt and ended ones alone", 0, BUSY, x -> x.exemptible(0));
    }

    private static void exemptibleUpToTheLastCredit() {
        for (int i = 0; i <= 31; i++) {
            int free = i;
            Boundary.answers("30 changes of one credit, " + free + " free", Math.min(free, 30),
                    x -> thirty(x, free), x -> x.exemptible(0));
        }
        int[][] rows = {
            // free, number of 5, 10, 15 and 20 credits
            {4, 0}, {5, 1}, {14, 1}, {15, 2}, {29, 2}, {30, 3}, {49, 3}, {50, 4}, {999, 4},
        };
        for (int[] row : rows) {
            FreezeCredits x = new FreezeCredits();
            x.addTeam(row[0]);
            x.addTeam(0);
            x.set(0, 5);
            int[] risks = {4, 2, 3, 1};
            for (int risk : risks) {
                x.ask(1, 1);
                x.ask(0, risk);
            }
            Check.same(row[0] + " credits free", row[1], x.exemptible(0));
            int made = 0;
            for (int index = 0; index < 8; index++) {
                int change = x.waiting(index);
                if (x.change(change, 0) == 0 && x.reason(change) == 0) {
                    x.exempt(change);
                    made++;
                }
            }
            Check.same(row[0] + " credits free, made exempt", row[1], made);
            Check.same(row[0] + " credits free, none then", 0, x.exemptible(0));
        }
    }

    private static void thirty(FreezeCredits x, int free) {
        x.addTeam(free);
        x.set(0, 1);
        for (int change = 0; change < 30; change++) {
            x.ask(0, 1);
        }
    }

    // ---- promise 20

    private static void weeksUntil() {
        Boundary.refuses("weeksUntil without teams", Check.INDEX, EMPTY, x -> x.weeksUntil(0, 1));
        Boundary.range("team", Check.INDEX, x -> x.addTeam(0), 0, 0, (x, team) -> x.weeksUntil(team, 9));
        Boundary.range("team", Check.INDEX, FULL, 0, 5, (x, team) -> x.weeksUntil(team, 9));
        Boundary.range("risk", Check.ARGUMENT, FULL, 1, 9, (x, risk) -> x.weeksUntil(5, risk));
        Boundary.outside("risk in the last week", Check.ARGUMENT, LAST_WEEK, 1, 9, (x, risk) -> x.weeksUntil(0, risk));
        Boundary.outside("team, with the risk wrong", Check.INDEX, FULL, 0, 5, (x, team) -> x.weeksUntil(team, 0));
        Boundary.outside("team, with the risk wrong", Check.INDEX, EMPTY, 0, -1, (x, team) -> x.weeksUntil(team, 10));
        Boundary.answers("just enough now", 0, x -> x.addTeam(27), x -> x.weeksUntil(0, 9));
        Boundary.answers("one too few now", 1, x -> x.addTeam(26), x -> x.weeksUntil(0, 9));
        Boundary.answers("five too few now", 2, x -> x.addTeam(22), x -> x.weeksUntil(0, 9));
        Boundary.answers("four too few now", 1, x -> x.addTeam(23), x -> x.weeksUntil(0, 9));
        Boundary.answers("with a debt, which does not matter", 0, BUSY, x -> {
            x.giveUp(5);
            return x.weeksUntil(2, 9);
        });
        Boundary.answers("held ones are not free", -1, BUSY, x -> x.weeksUntil(2, 9));
    }

    private static void weeksUntilTheLastWeek() {
        for (int i = 0; i < 40; i++) {
            int week = i;
            int ends = 39 - week;
            Boundary.answers("in week " + week + ", just by the last end of a week", ends,
                    x -> earnsOneAWeek(x, 40 - ends, week), x -> x.weeksUntil(0, 8));
            Boundary.answers("in week " + week + ", not even by the last one", -1,
                    x -> earnsOneAWeek(x, 39 - ends, week), x -> x.weeksUntil(0, 8));
        }
    }

    /** A risk of 8 is 40 credits. */
    private static void earnsOneAWeek(FreezeCredits x, int free, int week) {
        x.set(0, 5);
        x.set(1, 0);
        x.addTeam(free);
        Boundary.endWeeks(x, week);
        x.set(1, 1);
    }

    // ---- promise 21

    private static void lender() {
        Boundary.refuses("lender without teams", Check.INDEX, EMPTY, x -> x.lender(0, 1));
        Boundary.range("team", Check.INDEX, x -> x.addTeam(0), 0, 0, (x, team) -> x.lender(team, 9));
        Boundary.range("team", Check.INDEX, FULL, 0, 5, (x, team) -> x.lender(team, 9));
        Boundary.range("risk", Check.ARGUMENT, FULL, 1, 9, (x, risk) -> x.lender(5, risk));
        Boundary.outside("risk of a team without others", Check.ARGUMENT, x -> x.addTeam(0), 1, 9,
                (x, risk) -> x.lender(0, risk));
        Boundary.outside("risk of one that owes", Check.ARGUMENT, BUSY, 1, 9, (x, risk) -> x.lender(2, risk));
        Boundary.outside("team, with the risk wrong", Check.INDEX, FULL, 0, 5, (x, team) -> x.lender(team, 10));
        Boundary.answers("no other team", -1, x -> x.addTeam(0), x -> x.lender(0, 1));
        Boundary.answers("one that owes", -1, BUSY, x -> x.lender(2, 9));
        Boundary.answers("one that owes no more", 0, BUSY, x -> {
            x.giveUp(5);
            x.repay(0, 20);
            return x.lender(2, 9);
        });
    }

    private static void lenderWithJustEnough() {
        int[][] rows = {
            // free, free of the other team, lender by a risk of 9, which is 27
            {27, 999, -1}, {28, 999, -1}, {26, 0, -1}, {26, 1, 1}, {0, 26, -1}, {0, 27, 1}, {0, 999, 1}, {20, 6, -1},
            {20, 7, 1},
        };
        for (int[] row : rows) {
            Boundary.answers(row[0] + " and " + row[1] + " free", row[2], x -> {
                x.addTeam(row[0]);
                x.addTeam(row[1]);
            }, x -> x.lender(0, 9));
        }
        Boundary.answers("the greatest lack", 1, x -> greatestLack(x, 180), x -> x.lender(0, 9));
        Boundary.answers("the greatest lack, one too few", -1, x -> greatestLack(x, 179), x -> x.lender(0, 9));
        Boundary.answers("with 12 loans", 1, x -> {
            x.addTeam(0);
            x.addTeam(999);
            for (int loan = 0; loan < 12; loan++) {
                x.lend(1, 0, 1, 39);
            }
        }, x -> x.lender(0, 9));
    }

    private static void greatestLack(FreezeCredits x, int freeOfTheOther) {
        x.addTeam(0);
        x.addTeam(freeOfTheOther);
        x.set(0, 20);
    }

    private static void lenderOfSeveral() {
        int[][] rows = {
            // free of teams 0 to 5, the team that asks, the lender for 27
            {0, 30, 30, 30, 30, 30, 0, 1}, {30, 30, 30, 30, 30, 0, 5, 0}, {30, 0, 30, 31, 31, 30, 1, 3},
            {27, 27, 26, 27, 27, 28, 2, 5}, {28, 27, 26, 27, 27, 28, 2, 0}, {26, 26, 0, 26, 26, 26, 2, -1},
            {26, 26, 0, 26, 27, 26, 2, 4}, {999, 998, 0, 999, 997, 999, 2, 0}, {1, 2, 3, 4, 5, 26, 5, 4},
        };
        for (int[] row : rows) {
            FreezeCredits x = new FreezeCredits();
            for (int team = 0; team < 6; team++) {
                x.addTeam(row[team]);
            }
            Check.same("lender for team " + row[6] + ", " + row[0] + " free of team 0", row[7], x.lender(row[6], 9));
        }
    }

    // ---- promise 22

    private static void nextThaw() {
        Boundary.answers("no week frozen", 0, EMPTY, FreezeCredits::nextThaw);
        Boundary.answers("all frozen", -1, x -> x.freeze(0, 39, true), FreezeCredits::nextThaw);
        Boundary.answers("no week frozen, in week 39", 39, LAST_WEEK, FreezeCredits::nextThaw);
        Boundary.answers("week 39 frozen, in week 39", -1, LAST_WEEK, x -> {
            x.freeze(39, 39, true);
            return x.nextThaw();
        });
        for (int i = 0; i < 40; i++) {
            int week = i;
            Boundary.State thawed = x -> {
                x.freeze(0, 39, true);
                x.freeze(week, week, false);
            };
            Boundary.answers("only week " + week + " thawed", week, thawed, FreezeCredits::nextThaw);
            Boundary.answers("in this week", week, x -> {
                thawed.build(x);
                Boundary.endWeeks(x, week);
            }, FreezeCredits::nextThaw);
            if (week < 39) {
                Boundary.answers("in the week after it", -1, x -> {
                    thawed.build(x);
                    Boundary.endWeeks(x, week + 1);
                }, FreezeCredits::nextThaw);
            }
        }
    }

    // ---- promise 23

    private static void inBeing() {
        Boundary.range("weeks", Check.ARGUMENT, EMPTY, 0, 39, FreezeCredits::inBeing);
        Boundary.range("weeks", Check.ARGUMENT, FULL, 0, 39, FreezeCredits::inBeing);
        Boundary.range("weeks in the last one", Check.ARGUMENT, LAST_WEEK, 0, 39, FreezeCredits::inBeing);
        Boundary.answers("without teams", 0, EMPTY, x -> x.inBeing(39));
        Boundary.answers("of a full one", 5955, FULL, x -> x.inBeing(39));
    }

    private static void inBeingUpToTheLastWeek() {
        for (int i = 0; i < 40; i++) {
            int week = i;
            int last = 39 - week;
            Boundary.State rich = x -> {
                x.set(1, 0);
                x.addTeam(0);
                Boundary.endWeeks(x, week);
                x.set(1, 2);
                x.set(3, 2000);
            };
            Boundary.answers("week " + week + ", now", 0, rich, x -> x.inBeing(0));
            Boundary.answers("week " + week + ", up to the last week", 2 * last, rich, x -> x.inBeing(last));
            if (week > 0) {
                Boundary.answers("week " + week + ", behind the last week", -1, rich, x -> x.inBeing(last + 1));
                Boundary.answers("week " + week + ", behind 39 weeks", -1, rich, x -> x.inBeing(39));
            }
        }
    }
}
