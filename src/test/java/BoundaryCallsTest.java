import java.util.function.IntUnaryOperator;

/** The boundary cases that the document names for promises 1 to 11, and for the terms behind them. */
final class BoundaryCallsTest {
    private static final Boundary.State EMPTY = Boundary::empty;
    private static final Boundary.State BUSY = Boundary::busy;
    private static final Boundary.State FULL = Boundary::full;
    private static final Boundary.State LAST_WEEK = Boundary::lastWeek;

    public static void main(String[] args) {
        newObject();
        addTeam();
        freezeFrom();
        freezeTo();
        freezeBeforeThePresentWeek();
        freezeAnswers();
        setWhat();
        setValue();
        endWeekUpToTheLast();
        earningUpToTheMost();
        earningBeyondWhatAnyTeamBrings();
        earningAfterFaults();
        earningComesBeforeLoans();
        loansDueAtTheEndOfThisWeek();
        loansAsFarAsTheCreditsGo();
        loansInTheOrderOfWeeksThenNumbers();
        twelveLoansFallDue();
        ask();
        askOrder();
        exempt();
        exemptStates();
        exemptCredits();
        exemptOfATeamThatOwes();
        makeStates();
        makeInFrozenWeeks();
        makeBurns();
        giveUp();
        lendRanges();
        lendOrder();
        lendDue();
        lendFree();
        lendTwelve();
        lendToATeamThatOwes();
        repayRanges();
        repayLeft();
        repayFree();
        Check.end();
    }

    // ---- promise 1

    private static void newObject() {
        long digest = new FreezeCredits().digest();
        Boundary.made(FULL);
        Boundary.made(BUSY).runCommands();
        FreezeCredits x = new FreezeCredits();
        Check.same("nothing of other objects is in a new one", digest, x.digest());
        Check.same("no command", 0, x.clearCommands());
        Boundary.refuses("a new object has nothing to undo", Check.STATE, EMPTY, FreezeCredits::undo);
    }

    // ---- promise 2

    private static void addTeam() {
        Boundary.range("credits of a team", Check.ARGUMENT, EMPTY, 0, 999, FreezeCredits::addTeam);
        Boundary.range("credits of a team", Check.ARGUMENT, BUSY, 0, 999, FreezeCredits::addTeam);
        Boundary.range("credits of a team", Check.ARGUMENT, LAST_WEEK, 0, 999, FreezeCredits::addTeam);
        Boundary.answers("the first team", 0, EMPTY, x -> x.addTeam(0));
        Boundary.answers("the sixth team", 5, x -> addTeams(x, 5), x -> x.addTeam(999));
        Boundary.answers("its credits", 999, x -> addTeams(x, 5), x -> x.team(x.addTeam(999), 0));
        Boundary.answers("credits of a team without", 0, EMPTY, x -> x.team(x.addTeam(0), 0));
        Boundary.refuses("a seventh team", Check.STATE, FULL, x -> x.addTeam(0));
        Boundary.refuses("a seventh team", Check.STATE, FULL, x -> x.addTeam(999));
        Boundary.outside("credits of a seventh team", Check.ARGUMENT, FULL, 0, 999, FreezeCredits::addTeam);
    }

    private static void addTeams(FreezeCredits x, int teams) {
        for (int team = 0; team < teams; team++) {
            x.addTeam(10);
        }
    }

    // ---- promise 3

    private static void freezeFrom() {
        for (int i = 0; i < 2; i++) {
            boolean on = i == 0;
            Boundary.range("from", Check.ARGUMENT, EMPTY, 0, 39, (x, from) -> x.freeze(from, 39, on));
            Boundary.outside("from, with to out of range", Check.ARGUMENT, BUSY, 0, 39,
                    (x, from) -> x.freeze(from, 40, on));
            Boundary.refuses("from 39 and to 38", Check.ARGUMENT, EMPTY, x -> x.freeze(39, 38, on));
        }
    }

    private static void freezeTo() {
        int[] froms = {0, 1, 20, 38, 39};
        for (int from : froms) {
            Boundary.range("to, from " + from, Check.ARGUMENT, EMPTY, from, 39, (x, to) -> x.freeze(from, to, true));
        }
        Boundary.refuses("to 0, from 39", Check.ARGUMENT, EMPTY, x -> x.freeze(39, 0, true));
        Boundary.refuses("to -1, from 0", Check.ARGUMENT, FULL, x -> x.freeze(0, -1, false));
    }

    private static void freezeBeforeThePresentWeek() {
        for (int i = 0; i < 2; i++) {
            boolean on = i == 0;
            Boundary.refuses("the week before", Check.STATE, BUSY, x -> x.freeze(1, 39, on));
            Boundary.refuses("the first week", Check.STATE, BUSY, x -> x.freeze(0, 0, on));
            Boundary.answers("the present week", on ? 4 : 3, BUSY, x -> x.freeze(2, 2, on));
            Boundary.refuses("to before a past week", Check.ARGUMENT, BUSY, x -> x.freeze(1, 0, on));
            Boundary.refuses("to 40 from a past week", Check.ARGUMENT, BUSY, x -> x.freeze(1, 40, on));
            Boundary.refuses("from -1", Check.ARGUMENT, BUSY, x -> x.freeze(-1, 5, on));
            Boundary.refuses("week 38 in week 39", Check.STATE, LAST_WEEK, x -> x.freeze(38, 39, on));
            Boundary.refuses("week 40 in week 39", Check.ARGUMENT, LAST_WEEK, x -> x.freeze(39, 40, on));
            Boundary.answers("week 39 in week 39", on ? 1 : 0, LAST_WEEK, x -> x.freeze(39, 39, on));
        }
    }

    private static void freezeAnswers() {
        Boundary.answers("all weeks", 40, EMPTY, x -> x.freeze(0, 39, true));
        Boundary.answers("no week", 0, EMPTY, x -> x.freeze(0, 39, false));
        Boundary.answers("all weeks thawed", 0, x -> x.freeze(0, 39, true), x -> x.freeze(0, 39, false));
        Boundary.answers("weeks that are frozen", 40, x -> x.freeze(0, 39, true), x -> x.freeze(0, 39, true));
        Boundary.answers("the first week", 1, EMPTY, x -> x.freeze(0, 0, true));
        Boundary.answers("the last week", 1, EMPTY, x -> x.freeze(39, 39, true));
        FreezeCredits x = Boundary.made(EMPTY);
        x.freeze(0, 39, true);
        x.freeze(1, 38, false);
        for (int week = 0; week < 40; week++) {
            Check.same("frozen(" + week + ")", week == 0 || week == 39 ? 1 : 0, x.frozen(week));
        }
        Boundary.endWeeks(x, 39);
        Check.same("past weeks count too", 1, x.freeze(39, 39, false));
    }

    // ---- promise 4

    private static final int[] FIRST = {3, 4, 2, 100};
    private static final int[] LEAST = {1, 0, 0, 1};
    private static final int[] GREATEST = {20, 50, 50, 2000};

    private static void setWhat() {
        Boundary.range("what", Check.ARGUMENT, EMPTY, 0, 3, (x, what) -> x.set(what, 3));
        Boundary.outside("what, with a value out of every range", Check.ARGUMENT, FULL, 0, 3,
                (x, what) -> x.set(what, -1));
    }

    private static void setValue() {
        for (int i = 0; i < 4; i++) {
            int what = i;
            Boundary.range("setting " + what, Check.ARGUMENT, EMPTY, LEAST[what], GREATEST[what],
                    (x, value) -> x.set(what, value));
            Boundary.range("setting " + what, Check.ARGUMENT, FULL, LEAST[what], GREATEST[what],
                    (x, value) -> x.set(what, value));
            Boundary.answers("the first value of " + what, FIRST[what], EMPTY, x -> x.set(what, LEAST[what]));
            Boundary.answers("the least of " + what, LEAST[what], x -> x.set(what, LEAST[what]),
                    x -> x.set(what, GREATEST[what]));
            Boundary.answers("the greatest of " + what, GREATEST[what], x -> x.set(what, GREATEST[what]),
                    x -> x.set(what, GREATEST[what]));
        }
    }

    // ---- promise 5

    private static void endWeekUpToTheLast() {
        for (int i = 0; i < 39; i++) {
            int week = i;
            Boundary.answers("week " + week, week + 1, x -> Boundary.endWeeks(x, week), x -> {
                x.endWeek();
                return x.whole(8);
            });
        }
        Boundary.refuses("the end of week 39", Check.STATE, LAST_WEEK, FreezeCredits::endWeek);
        Boundary.refuses("the end of week 39 without teams", Check.STATE, x -> Boundary.endWeeks(x, 39),
                FreezeCredits::endWeek);
        Boundary.answers("the end of week 39 by a text", 0, x -> {
            Boundary.endWeeks(x, 39);
            Boundary.write(x, "week;");
        }, FreezeCredits::runCommands);
        Boundary.answers("no team earns", 0, EMPTY, FreezeCredits::endWeek);
    }

    private static void earningUpToTheMost() {
        int[][] rows = {
            // free, earning, most, earned
            {95, 4, 100, 4}, {96, 4, 100, 4}, {97, 4, 100, 3}, {99, 4, 100, 1}, {100, 4, 100, 0}, {101, 4, 100, 0},
            {0, 0, 100, 0}, {0, 50, 2000, 50}, {0, 50, 1, 1}, {1, 50, 1, 0}, {2, 50, 1, 0}, {0, 50, 50, 50},
            {0, 50, 49, 49}, {999, 50, 2000, 50}, {999, 1, 1000, 1}, {999, 50, 999, 0}, {999, 50, 1, 0},
        };
        for (int[] row : rows) {
            FreezeCredits x = new FreezeCredits();
            x.addTeam(row[0]);
            x.set(1, row[1]);
            x.set(3, row[2]);
            String what = row[0] + " free, earning " + row[1] + ", most " + row[2];
            Check.same(what, row[3], x.endWeek());
            Check.same(what + ": free then", row[0] + row[3], x.team(0, 0));
            Check.same(what + ": earned then", row[3], x.team(0, 2));
        }
    }

    private static void earningBeyondWhatAnyTeamBrings() {
        FreezeCredits x = new FreezeCredits();
        x.set(1, 50);
        x.set(3, 2000);
        x.addTeam(949);
        x.addTeam(999);
        x.addTeam(999);
        x.lend(1, 0, 500, 39);
        x.lend(2, 0, 500, 39);
        Check.same("1949 free", 50, x.endWeek() - 100);
        Check.same("free then", 1999, x.team(0, 0));
        Check.same("1999 free", 1, x.endWeek() - 100);
        Check.same("free then", 2000, x.team(0, 0));
        Check.same("2000 free", 0, x.endWeek() - 100);
        x.lend(1, 0, 1, 39);
        Check.same("2001 free", 0, x.endWeek() - 100);
        Check.same("free then", 2001, x.team(0, 0));
    }

    private static void earningAfterFaults() {
        FreezeCredits x = new FreezeCredits();
        x.addTeam(50);
        x.addTeam(50);
        for (int change = 0; change < 6; change++) {
            x.ask(0, 1);
        }
        x.make(0, false);
        x.giveUp(1);
        Check.same("done and given up ones are no faults", 8, x.endWeek());
        x.exempt(2);
        x.make(2, true);
        Check.same("a fault of an exempt change", 4, x.endWeek());
        Check.same("a fault of the week before", 8, x.endWeek());
        x.make(3, true);
        x.make(4, false);
        Check.same("a fault, and one done after it", 4, x.endWeek());
        x.make(5, true);
        x.undo();
        Check.same("a fault that was undone", 8, x.endWeek());
    }

    private static void earningComesBeforeLoans() {
        FreezeCredits x = new FreezeCredits();
        x.addTeam(99);
        x.addTeam(0);
        x.lend(0, 1, 20, 0);
        x.lend(0, 1, 1, 0);
        x.ask(1, 7);
        x.exempt(0);
        x.set(3, 79);
        Check.same("1 of the lender, below the most as yet, 4 of the borrower", 5, x.endWeek());
        Check.same("the lender has what both had", 79 + 4, x.team(0, 0));
        Check.same("the borrower paid with what it earned", 0, x.team(1, 0));
        x.giveUp(0);
        x.set(3, 20);
        Check.same("a borrower above the most earns nothing before it pays", 0, x.endWeek());
        Check.same("and is below it only then", 4, x.team(1, 0));
        Check.same("it earns a week later", 4, x.endWeek());
    }

    private static void loansDueAtTheEndOfThisWeek() {
        for (int due = 0; due < 39; due++) {
            FreezeCredits x = new FreezeCredits();
            x.set(1, 0);
            x.addTeam(10);
            x.addTeam(0);
            x.lend(0, 1, 10, due);
            Boundary.endWeeks(x, due);
            Check.same("due " + due + ", left before its end", 10, x.loan(0, 3));
            x.endWeek();
            Check.same("due " + due + ", left behind its end", 0, x.loan(0, 3));
            Check.same("due " + due + ", free of the lender", 10, x.team(0, 0));
        }
        FreezeCredits x = Boundary.made(LAST_WEEK);
        Check.same("a loan due in week 39 is never collected", 10, x.loan(0, 3));
        Check.same("nor does its borrower ever owe", 0, x.team(0, 9));
    }

    private static void loansAsFarAsTheCreditsGo() {
        int[][] rows = {
            // free before, left then, owes then
            {19, 0, 0}, {10, 0, 0}, {9, 1, 1}, {1, 9, 1}, {0, 10, 1},
        };
        for (int[] row : rows) {
            FreezeCredits x = new FreezeCredits();
            x.set(1, 0);
            x.addTeam(10);
            x.addTeam(row[0]);
            x.addTeam(0);
            x.lend(0, 1, 10, 0);
            x.lend(1, 2, 10, 39);
            Check.same("free before", row[0], x.team(1, 0));
            x.endWeek();
            String what = row[0] + " free credits for a loan of 10";
            Check.same(what + ": left", row[1], x.loan(0, 3));
            Check.same(what + ": amount", 10, x.loan(0, 2));
            Check.same(what + ": owes", row[2], x.team(1, 9));
            Check.same(what + ": free", Math.max(0, row[0] - 10), x.team(1, 0));
            Check.same(what + ": free of the lender", 10 - row[1], x.team(0, 0));
            Check.same(what + ": the loan due later", 10, x.loan(1, 3));
        }
    }

    private static void loansInTheOrderOfWeeksThenNumbers() {
        FreezeCredits x = new FreezeCredits();
        x.set(1, 0);
        x.addTeam(40);
        x.addTeam(0);
        x.addTeam(0);
        x.lend(0, 1, 5, 2);
        x.lend(0, 1, 5, 1);
        x.lend(0, 1, 5, 2);
        x.lend(0, 1, 5, 1);
        x.ask(1, 1);
        x.set(0, 18);
        x.exempt(0);
        int[][] left = {{5, 5, 5, 5}, {5, 3, 5, 5}, {5, 3, 5, 5}};
        for (int week = 0; week < 3; week++) {
            x.endWeek();
            same("week " + week, left[week], loan -> x.loan(loan, 3));
        }
        x.giveUp(0);
        x.lend(1, 2, 8, 39);
        Check.same("10 credits, of which loan 1 takes 3, loan 3 takes 5 and loan 0 the rest", 10, x.team(1, 0));
        x.endWeek();
        same("week 3", new int[] {3, 0, 5, 0, 8}, loan -> x.loan(loan, 3));
        Check.same("nothing is left over", 0, x.team(1, 0));
    }

    private static void same(String what, int[] due, IntUnaryOperator got) {
        for (int i = 0; i < due.length; i++) {
            Check.same(what + ", number " + i, due[i], got.applyAsInt(i));
        }
    }

    private static void twelveLoansFallDue() {
        FreezeCredits x = new FreezeCredits();
        x.set(1, 0);
        x.addTeam(78);
        x.addTeam(0);
        for (int loan = 0; loan < 12; loan++) {
            x.lend(0, 1, loan + 1, 0);
        }
        x.endWeek();
        Check.same("all are paid back", 0, x.whole(3));
        Check.same("to the lender", 78, x.team(0, 0));
    }

    // ---- promise 6

    private static void sixTeams(FreezeCredits x) {
        addTeams(x, 6);
        for (int change = 0; change < 29; change++) {
            x.ask(change % 6, 1 + change % 9);
        }
    }

    private static void ask() {
        Boundary.refuses("ask without teams", Check.INDEX, EMPTY, x -> x.ask(0, 1));
        Boundary.range("team, of one", Check.INDEX, x -> x.addTeam(0), 0, 0, (x, team) -> x.ask(team, 1));
        Boundary.range("team, of six", Check.INDEX, BoundaryCallsTest::sixTeams, 0, 5, (x, team) -> x.ask(team, 1));
        Boundary.range("risk", Check.ARGUMENT, BoundaryCallsTest::sixTeams, 1, 9, (x, risk) -> x.ask(5, risk));
        Boundary.answers("the first change", 0, x -> x.addTeam(0), x -> x.ask(0, 9));
        Boundary.answers("the 30th change", 29, BoundaryCallsTest::sixTeams, x -> x.ask(0, 1));
        Boundary.refuses("a 31st change", Check.STATE, FULL, x -> x.ask(0, 1));
        Boundary.refuses("a 31st change", Check.STATE, FULL, x -> x.ask(5, 9));
        Boundary.answers("ask in week 39", 39, LAST_WEEK, x -> x.change(x.ask(0, 1), 4));
        Boundary.answers("ask of a team that owes", 6, BUSY, x -> x.ask(2, 1));
    }

    private static void askOrder() {
        Boundary.outside("no such team, a risk of 0, 30 changes", Check.INDEX, FULL, 0, 5, (x, team) -> x.ask(team, 0));
        Boundary.outside("no such team, a good risk, 30 changes", Check.INDEX, FULL, 0, 5, (x, team) -> x.ask(team, 9));
        Boundary.outside("no such team, a risk of 10", Check.INDEX, BUSY, 0, 2, (x, team) -> x.ask(team, 10));
        Boundary.outside("a bad risk, 30 changes", Check.ARGUMENT, FULL, 1, 9, (x, risk) -> x.ask(0, risk));
    }

    // ---- promise 7

    private static void exempt() {
        Boundary.refuses("exempt without changes", Check.INDEX, EMPTY, x -> x.exempt(0));
        Boundary.refuses("exempt without changes", Check.INDEX, EMPTY, x -> x.exempt(-1));
        Boundary.range("change", Check.INDEX, FULL, 0, 29, FreezeCredits::exempt);
        Boundary.outside("change", Check.INDEX, BUSY, 0, 5, FreezeCredits::exempt);
        Boundary.answers("in the last week", 6, LAST_WEEK, x -> x.exempt(0));
        Boundary.answers("in the last week, frozen", 6, LAST_WEEK, x -> {
            x.freeze(39, 39, true);
            return x.exempt(0);
        });
    }

    private static void exemptStates() {
        int[] others = {0, 1, 3, 4, 5};
        for (int other : others) {
            Boundary.refuses("exempt of change " + other, Check.STATE, BUSY, x -> x.exempt(other));
        }
        Boundary.answers("exempt of one asked for", 9, BUSY, x -> x.exempt(2));
    }

    private static void exemptCredits() {
        int[][] rows = {
            // price, risk
            {1, 1}, {1, 9}, {20, 1}, {20, 9}, {3, 4},
        };
        for (int[] row : rows) {
            int credits = row[0] * row[1];
            String what = "price " + row[0] + ", risk " + row[1];
            Boundary.answers(what + ", just enough", credits, x -> toExempt(x, row, credits), x -> x.exempt(0));
            Boundary.answers(what + ", none left", 0, x -> toExempt(x, row, credits), x -> {
                x.exempt(0);
                return x.team(0, 0);
            });
            Boundary.refuses(what + ", one too few", Check.STATE, x -> toExempt(x, row, credits - 1), x -> x.exempt(0));
            Boundary.refuses(what + ", none", Check.STATE, x -> toExempt(x, row, 0), x -> x.exempt(0));
        }
    }

    private static void toExempt(FreezeCredits x, int[] row, int free) {
        x.addTeam(free);
        x.addTeam(999);
        x.ask(0, row[1]);
        x.set(0, row[0]);
    }

    /** Team 0 borrowed 10 credits due in week 1, and holds all that it has for change 0. */
    private static void borrowed(FreezeCredits x, int weeks) {
        x.set(1, 0);
        x.addTeam(2);
        x.addTeam(50);
        x.ask(0, 4);
        x.ask(0, 1);
        x.lend(1, 0, 10, 1);
        x.exempt(0);
        Boundary.endWeeks(x, weeks);
        x.giveUp(0);
        x.freeze(5, 39, true);
    }

    private static void exemptOfATeamThatOwes() {
        Boundary.answers("in the week in which the loan is due", 3, x -> borrowed(x, 1), x -> x.exempt(1));
        Boundary.refuses("in the week after it", Check.STATE, x -> borrowed(x, 2), x -> x.exempt(1));
        Boundary.refuses("with one credit left to pay back", Check.STATE, x -> {
            borrowed(x, 2);
            x.set(0, 1);
            x.repay(0, 9);
        }, x -> x.exempt(1));
        Boundary.answers("with none left to pay back", 1, x -> {
            borrowed(x, 2);
            x.set(0, 1);
            x.repay(0, 10);
        }, x -> x.exempt(1));
    }

    // ---- promise 8

    private static void makeStates() {
        for (int i = 0; i < 2; i++) {
            boolean fault = i == 0;
            Boundary.refuses("make without changes", Check.INDEX, EMPTY, x -> x.make(0, fault));
            Boundary.range("change", Check.INDEX, FULL, 0, 29, (x, change) -> x.make(change, fault));
            Boundary.outside("change", Check.INDEX, BUSY, 0, 5, (x, change) -> x.make(change, fault));
            int[] ended = {1, 3, 4};
            for (int change : ended) {
                Boundary.refuses("make of change " + change, Check.STATE, BUSY, x -> x.make(change, fault));
            }
            Boundary.answers("make of one asked for", fault ? 6 : 0, BUSY, x -> x.make(2, fault));
            Boundary.answers("make of an exempt one", fault ? 15 + 10 : 0, BUSY, x -> x.make(0, fault));
            Boundary.answers("make of a team that owes", fault ? 27 : 0, BUSY, x -> x.make(5, fault));
            Boundary.answers("make in week 39", 39, LAST_WEEK, x -> {
                x.make(0, fault);
                return x.change(0, 5);
            });
            Boundary.answers("make in week 0", 0, FULL, x -> {
                x.make(0, fault);
                return x.change(0, 5);
            });
        }
    }

    private static void makeInFrozenWeeks() {
        for (int i = 0; i < 2; i++) {
            boolean fault = i == 0;
            Boundary.refuses("not exempt, only the present week frozen", Check.STATE, x -> {
                Boundary.busy(x);
                x.freeze(2, 2, true);
            }, x -> x.make(2, fault));
            Boundary.answers("exempt, only the present week frozen", fault ? 25 : 0, x -> {
                Boundary.busy(x);
                x.freeze(2, 2, true);
            }, x -> x.make(0, fault));
            Boundary.answers("not exempt, the weeks around the present one frozen", fault ? 6 : 0, x -> {
                x.freeze(1, 1, true);
                Boundary.busy(x);
                x.freeze(3, 39, true);
            }, x -> x.make(2, fault));
            Boundary.refuses("not exempt, week 39 frozen", Check.STATE, x -> {
                Boundary.lastWeek(x);
                x.freeze(39, 39, true);
            }, x -> x.make(0, fault));
            Boundary.answers("not exempt, week 38 frozen", 0, x -> {
                x.set(2, 0);
                x.freeze(38, 38, true);
                Boundary.lastWeek(x);
            }, x -> x.make(0, fault));
        }
    }

    private static void makeBurns() {
        int[][] rows = {
            // free, fine, risk, burnt
            {7, 2, 4, 7}, {8, 2, 4, 8}, {9, 2, 4, 8}, {0, 2, 4, 0}, {1, 50, 9, 1}, {449, 50, 9, 449}, {450, 50, 9, 450},
            {451, 50, 9, 450}, {999, 50, 9, 450}, {999, 0, 9, 0}, {0, 0, 1, 0}, {999, 1, 1, 1}, {999, 50, 1, 50},
        };
        for (int[] row : rows) {
            String what = row[0] + " free, fine " + row[1] + ", risk " + row[2];
            burns(what, row, 0);
            burns(what + ", exempt", row, 20 * row[2]);
        }
    }

    private static void burns(String what, int[] row, int held) {
        FreezeCredits x = new FreezeCredits();
        x.addTeam(row[0]);
        x.addTeam(999);
        x.set(0, 20);
        x.set(2, row[1]);
        x.ask(0, row[2]);
        if (held > 0) {
            x.lend(1, 0, held, 39);
            x.exempt(0);
        }
        Check.same(what, row[3] + held, x.make(0, true));
        Check.same(what + ": free", row[0] - row[3], x.team(0, 0));
        Check.same(what + ": held", 0, x.team(0, 1));
        Check.same(what + ": burnt", row[3] + held, x.team(0, 3));
        Check.same(what + ": the other team", 999 - held, x.team(1, 0));
    }

    // ---- promise 9

    private static void giveUp() {
        Boundary.refuses("giveUp without changes", Check.INDEX, EMPTY, x -> x.giveUp(0));
        Boundary.range("change", Check.INDEX, FULL, 0, 29, FreezeCredits::giveUp);
        Boundary.outside("change", Check.INDEX, BUSY, 0, 5, FreezeCredits::giveUp);
        int[] ended = {1, 3, 4};
        for (int change : ended) {
            Boundary.refuses("giveUp of change " + change, Check.STATE, BUSY, x -> x.giveUp(change));
        }
        Boundary.answers("one asked for", 0, BUSY, x -> x.giveUp(2));
        Boundary.answers("an exempt one", 15, BUSY, x -> x.giveUp(0));
        Boundary.answers("an exempt one of a team that owes", 27, BUSY, x -> x.giveUp(5));
        Boundary.answers("the dearest", 180, x -> {
            x.addTeam(180);
            x.ask(0, 9);
            x.set(0, 20);
            x.exempt(0);
            x.set(0, 1);
        }, x -> x.giveUp(0));
        Boundary.answers("in a frozen week", 15, x -> {
            Boundary.busy(x);
            x.freeze(2, 2, true);
        }, x -> x.giveUp(0));
        Boundary.answers("in week 39", 0, LAST_WEEK, x -> x.giveUp(0));
    }

    // ---- promise 10

    private static void rich(FreezeCredits x) {
        for (int team = 0; team < 6; team++) {
            x.addTeam(999);
        }
        Boundary.write(x, "lend 0 1 1 1;");
    }

    private static void richLater(FreezeCredits x) {
        rich(x);
        Boundary.endWeeks(x, 5);
    }

    private static void lendRanges() {
        Boundary.refuses("lend without teams", Check.INDEX, EMPTY, x -> x.lend(0, 1, 1, 0));
        Boundary.refuses("lend of the only team to a second one", Check.INDEX, x -> x.addTeam(9),
                x -> x.lend(0, 1, 1, 0));
        Boundary.refuses("lend of a second team to the only one", Check.INDEX, x -> x.addTeam(9),
                x -> x.lend(1, 0, 1, 0));
        Boundary.refuses("lend of the only team to itself", Check.ARGUMENT, x -> x.addTeam(9), x -> x.lend(0, 0, 1, 0));
        Boundary.State six = BoundaryCallsTest::rich;
        Boundary.range("from", Check.INDEX, six, 0, 5, (x, from) -> x.lend(from, 2, 1, 0));
        Boundary.range("to", Check.INDEX, six, 0, 5, (x, to) -> x.lend(2, to, 1, 0));
        Boundary.range("amount", Check.ARGUMENT, six, 1, 500, (x, amount) -> x.lend(4, 5, amount, 0));
        Boundary.range("due", Check.ARGUMENT, six, 0, 39, (x, due) -> x.lend(5, 4, 1, due));
        for (int i = 0; i < 6; i++) {
            int team = i;
            Boundary.refuses("both are team " + team, Check.ARGUMENT, six, x -> x.lend(team, team, 1, 0));
        }
    }

    private static void lendOrder() {
        Boundary.State later = BoundaryCallsTest::richLater;
        Boundary.outside("from, with all else wrong", Check.INDEX, later, 0, 5, (x, from) -> x.lend(from, from, 0, 40));
        Boundary.outside("from, due too early", Check.INDEX, later, 0, 5, (x, from) -> x.lend(from, 0, 1, 0));
        Boundary.outside("to, with amount and due wrong", Check.INDEX, later, 0, 5, (x, to) -> x.lend(0, to, 501, -1));
        Boundary.outside("to, due too early", Check.INDEX, later, 0, 5, (x, to) -> x.lend(0, to, 1, 4));
        Boundary.outside("to, 12 loans", Check.INDEX, FULL, 0, 5, (x, to) -> x.lend(0, to, 1, 0));
        Boundary.refuses("the same, due too early", Check.ARGUMENT, later, x -> x.lend(3, 3, 1, 0));
        Boundary.refuses("the same, 12 loans", Check.ARGUMENT, FULL, x -> x.lend(3, 3, 1, 0));
        Boundary.refuses("the same, too few credits", Check.ARGUMENT, BUSY, x -> x.lend(1, 1, 500, 3));
        Boundary.refuses("the same, which owes", Check.ARGUMENT, BUSY, x -> x.lend(2, 2, 1, 3));
        Boundary.outside("amount, due too early", Check.ARGUMENT, later, 1, 500, (x, amount) -> x.lend(0, 1, amount, 0));
        Boundary.outside("amount, 12 loans", Check.ARGUMENT, FULL, 1, 500, (x, amount) -> x.lend(0, 1, amount, 0));
        Boundary.outside("amount, to one that owes", Check.ARGUMENT, BUSY, 1, 500, (x, amount) -> x.lend(0, 2, amount, 3));
        Boundary.outside("due, 12 loans", Check.ARGUMENT, FULL, 0, 39, (x, due) -> x.lend(0, 1, 1, due));
        Boundary.outside("due, too few credits", Check.ARGUMENT, BUSY, 0, 39, (x, due) -> x.lend(1, 0, 500, due));
        Boundary.outside("due, to one that owes", Check.ARGUMENT, BUSY, 0, 39, (x, due) -> x.lend(0, 2, 1, due));
    }

    private static void lendDue() {
        Boundary.State later = BoundaryCallsTest::richLater;
        Boundary.refuses("due in week 4, in week 5", Check.STATE, later, x -> x.lend(0, 1, 1, 4));
        Boundary.refuses("due in week 0, in week 5", Check.STATE, later, x -> x.lend(0, 1, 1, 0));
        Boundary.answers("due in week 5, in week 5", 0, later, x -> x.lend(0, 1, 1, 5));
        Boundary.refuses("due in week 38, in week 39", Check.STATE, LAST_WEEK, x -> x.lend(0, 1, 1, 38));
        Boundary.answers("due in week 39, in week 39", 1, LAST_WEEK, x -> x.lend(0, 1, 1, 39));
        Boundary.refuses("due in week 40, in week 39", Check.ARGUMENT, LAST_WEEK, x -> x.lend(0, 1, 1, 40));
    }

    private static void lendFree() {
        int[] frees = {1, 2, 250, 499, 500};
        for (int free : frees) {
            Boundary.State two = x -> {
                x.addTeam(free);
                x.addTeam(0);
            };
            Boundary.answers("all of " + free, 0, two, x -> x.lend(0, 1, free, 0));
            if (free < 500) {
                Boundary.refuses("one more than " + free, Check.STATE, two, x -> x.lend(0, 1, free + 1, 0));
            }
            Boundary.refuses("of a team without credits", Check.STATE, two, x -> x.lend(1, 0, 1, 0));
        }
        Boundary.refuses("held credits are not free", Check.STATE, BUSY, x -> x.lend(2, 0, 1, 3));
    }

    private static void lendTwelve() {
        Boundary.State eleven = x -> {
            rich(x);
            for (int loan = 0; loan < 11; loan++) {
                x.lend(loan % 6, 5 - loan % 6, 1, loan);
            }
        };
        Boundary.answers("the 12th loan", 11, eleven, x -> x.lend(0, 1, 500, 0));
        Boundary.refuses("a 13th loan", Check.STATE, FULL, x -> x.lend(0, 1, 1, 0));
        Boundary.refuses("a 13th loan when all are paid back", Check.STATE, x -> {
            Boundary.full(x);
            Boundary.endWeeks(x, 12);
        }, x -> x.lend(0, 1, 1, 39));
    }

    private static void lendToATeamThatOwes() {
        Boundary.answers("in the week in which the loan is due", 1, x -> borrowed(x, 1), x -> x.lend(1, 0, 1, 9));
        Boundary.refuses("in the week after it", Check.STATE, x -> borrowed(x, 2), x -> x.lend(1, 0, 1, 9));
        Boundary.answers("by the team that owes", 1, x -> borrowed(x, 2), x -> x.lend(0, 1, 12, 9));
        Boundary.refuses("with one credit left to pay back", Check.STATE, x -> {
            borrowed(x, 2);
            x.repay(0, 9);
        }, x -> x.lend(1, 0, 1, 9));
        Boundary.answers("with none left to pay back", 1, x -> {
            borrowed(x, 2);
            x.repay(0, 10);
        }, x -> x.lend(1, 0, 1, 9));
    }

    // ---- promise 11

    private static void repayRanges() {
        Boundary.refuses("repay without loans", Check.INDEX, EMPTY, x -> x.repay(0, 1));
        Boundary.refuses("repay without loans", Check.INDEX, x -> rich(x), x -> x.repay(0, 1));
        Boundary.range("loan", Check.INDEX, FULL, 0, 11, (x, loan) -> x.repay(loan, 1));
        Boundary.outside("loan, with the amount wrong", Check.INDEX, FULL, 0, 11, (x, loan) -> x.repay(loan, 0));
        Boundary.outside("loan, with the amount wrong", Check.INDEX, BUSY, 0, 2, (x, loan) -> x.repay(loan, 501));
        Boundary.State great = x -> {
            rich(x);
            x.lend(0, 1, 500, 5);
        };
        Boundary.range("amount", Check.ARGUMENT, great, 1, 500, (x, amount) -> x.repay(0, amount));
        Boundary.outside("amount of a loan paid back", Check.ARGUMENT, BUSY, 1, 500, (x, amount) -> x.repay(1, amount));
        Boundary.outside("amount, without free credits", Check.ARGUMENT, BUSY, 1, 500, (x, amount) -> x.repay(0, amount));
        Boundary.answers("all but one", 499, great, x -> x.repay(0, 1));
        Boundary.answers("all", 0, great, x -> x.repay(0, 500));
    }

    private static void repayLeft() {
        Boundary.answers("all that is left", 0, BUSY, x -> x.repay(2, 6));
        Boundary.refuses("one more than is left", Check.STATE, BUSY, x -> x.repay(2, 7));
        Boundary.answers("all but one", 1, BUSY, x -> x.repay(2, 5));
        Boundary.refuses("more than is left after a part", Check.STATE, x -> {
            Boundary.busy(x);
            x.repay(2, 5);
        }, x -> x.repay(2, 2));
        Boundary.refuses("of a loan paid back", Check.STATE, BUSY, x -> x.repay(1, 1));
    }

    private static void repayFree() {
        Boundary.State later = x -> borrowed(x, 2);
        Boundary.answers("free before", 12, later, x -> x.team(0, 0));
        Boundary.State eight = x -> {
            borrowed(x, 2);
            x.lend(0, 1, 4, 39);
        };
        Boundary.answers("all that is free", 2, eight, x -> x.repay(0, 8));
        Boundary.refuses("one more than is free", Check.STATE, eight, x -> x.repay(0, 9));
        Boundary.refuses("without free credits", Check.STATE, BUSY, x -> x.repay(0, 1));
    }
}
