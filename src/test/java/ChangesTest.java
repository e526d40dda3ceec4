/** Promises 6 to 9: ask, exempt, make, giveUp. */
final class ChangesTest {
    public static void main(String[] args) {
        ask();
        askRefused();
        exempt();
        exemptRefused();
        makeInAThawedWeek();
        makeExempt();
        makeBurnsNoMoreThanThereIs();
        makeRefused();
        giveUp();
        giveUpRefused();
        Check.end();
    }

    private static void ask() {
        FreezeCredits x = new FreezeCredits();
        x.addTeam(10);
        x.addTeam(10);
        Check.same("ask(1, 9)", 0, x.ask(1, 9));
        x.endWeek();
        Check.same("ask(0, 1)", 1, x.ask(0, 1));
        int[][] due = {{1, 9, 0, 0, 0, -1, 0}, {0, 1, 0, 0, 1, -1, 0}};
        for (int change = 0; change < 2; change++) {
            for (int what = 0; what < 7; what++) {
                Check.same("change(" + change + ", " + what + ")", due[change][what], x.change(change, what));
            }
        }
        Check.same("changes", 2, x.whole(1));
        x.make(1, true);
        x.undo();
        Check.same("undo of ask", 2, x.undo());
        Check.same("changes after undo", 1, x.whole(1));
        Check.same("waiting(0) after undo", 0, x.waiting(0));
        Check.same("waiting(1) after undo", -1, x.waiting(1));
        Check.same("the number is given again", 1, x.ask(1, 2));
    }

    private static void askRefused() {
        FreezeCredits x = new FreezeCredits();
        Check.refused("ask without teams", Check.INDEX, x, () -> x.ask(0, 1));
        x.addTeam(10);
        for (int change = 0; change <= 30; change++) {
            Check.refused("ask(-1, 0)", Check.INDEX, x, () -> x.ask(-1, 0));
            Check.refused("ask(1, 1)", Check.INDEX, x, () -> x.ask(1, 1));
            Check.refused("ask(MAX, 1)", Check.INDEX, x, () -> x.ask(Integer.MAX_VALUE, 1));
            Check.refused("ask(0, 0)", Check.ARGUMENT, x, () -> x.ask(0, 0));
            Check.refused("ask(0, 10)", Check.ARGUMENT, x, () -> x.ask(0, 10));
            if (change < 30) {
                Check.same("ask", change, x.ask(0, 9 - change % 9));
            }
        }
        Check.refused("a 31st change", Check.STATE, x, () -> x.ask(0, 1));
        x.giveUp(0);
        Check.refused("a 31st change after one was given up", Check.STATE, x, () -> x.ask(0, 1));
    }

    private static void exempt() {
        FreezeCredits x = new FreezeCredits();
        x.addTeam(20);
        x.ask(0, 4);
        x.ask(0, 1);
        x.freeze(0, 0, true);
        Check.same("exempt in a frozen week", 12, x.exempt(0));
        Check.same("state", 1, x.change(0, 2));
        Check.same("held for it", 12, x.change(0, 3));
        Check.same("free", 8, x.team(0, 0));
        Check.same("held", 12, x.team(0, 1));
        Check.same("burnt", 0, x.team(0, 3));
        x.endWeek();
        x.set(0, 12);
        Check.same("exempt in another week, with the last credit", 12, x.exempt(1));
        Check.same("held by the old price", 12, x.change(0, 3));
        Check.same("free of the team", 0, x.team(0, 0));
        Check.same("held of the team", 24, x.whole(11));
        Check.same("exempt changes", 2, x.whole(15));
        Check.same("undo of exempt", 3, x.undo());
        Check.same("free after undo", 12, x.team(0, 0));
        Check.same("state after undo", 0, x.change(1, 2));
        Check.same("held after undo", 0, x.change(1, 3));
    }

    private static void exemptRefused() {
        FreezeCredits x = new FreezeCredits();
        x.addTeam(11);
        x.addTeam(30);
        Check.refused("exempt without changes", Check.INDEX, x, () -> x.exempt(0));
        x.ask(0, 4);
        x.ask(0, 1);
        x.ask(0, 1);
        x.ask(0, 1);
        Check.refused("exempt(-1)", Check.INDEX, x, () -> x.exempt(-1));
        Check.refused("exempt(4)", Check.INDEX, x, () -> x.exempt(4));
        Check.refused("too few credits", Check.STATE, x, () -> x.exempt(0));
        x.exempt(1);
        Check.refused("exempt again", Check.STATE, x, () -> x.exempt(1));
        x.make(1, false);
        Check.refused("exempt of a change done", Check.STATE, x, () -> x.exempt(1));
        x.giveUp(2);
        Check.refused("exempt of one given up", Check.STATE, x, () -> x.exempt(2));
        x.lend(1, 0, 30, 0);
        Check.same("it can before the loan is overdue", 3, x.exempt(3));
        x.undo();
        x.exempt(0);
        x.set(1, 0);
        x.endWeek();
        x.giveUp(0);
        Check.same("credits enough", 12, x.team(0, 0));
        Check.refused("its team owes", Check.STATE, x, () -> x.exempt(3));
        x.repay(0, 1);
        Check.same("its team owes no more", 3, x.exempt(3));
    }

    private static void makeInAThawedWeek() {
        FreezeCredits x = new FreezeCredits();
        x.addTeam(20);
        x.ask(0, 3);
        x.ask(0, 4);
        x.endWeek();
        Check.same("done", 0, x.make(0, false));
        Check.same("state", 2, x.change(0, 2));
        Check.same("made in", 1, x.change(0, 5));
        Check.same("was exempt", 0, x.change(0, 6));
        Check.same("free", 24, x.team(0, 0));
        Check.same("faulty", 8, x.make(1, true));
        Check.same("state", 3, x.change(1, 2));
        Check.same("free", 16, x.team(0, 0));
        Check.same("burnt", 8, x.team(0, 3));
        Check.same("was exempt", 0, x.change(1, 6));
        Check.same("asked for in", 0, x.change(1, 4));
        Check.same("undo of make", 3, x.undo());
        Check.same("state after undo", 0, x.change(1, 2));
        Check.same("made in after undo", -1, x.change(1, 5));
        Check.same("waiting after undo", 1, x.waiting(0));
        Check.same("burnt after undo", 0, x.whole(14));
    }

    private static void makeExempt() {
        FreezeCredits x = new FreezeCredits();
        x.addTeam(40);
        x.ask(0, 3);
        x.ask(0, 4);
        x.exempt(0);
        x.exempt(1);
        x.freeze(0, 0, true);
        x.set(0, 20);
        Check.same("done in a frozen week", 0, x.make(0, false));
        Check.same("free again", 28, x.team(0, 0));
        Check.same("held of it", 0, x.change(0, 3));
        Check.same("was exempt", 1, x.change(0, 6));
        x.set(2, 3);
        Check.same("faulty", 12 + 12, x.make(1, true));
        Check.same("free", 16, x.team(0, 0));
        Check.same("held", 0, x.team(0, 1));
        Check.same("burnt", 24, x.team(0, 3));
        Check.same("held for it", 0, x.change(1, 3));
        Check.same("was exempt", 1, x.change(1, 6));
        Check.same("in being", 16, x.inBeing(0));
        Check.same("exempt changes", 0, x.whole(15));
    }

    private static void makeBurnsNoMoreThanThereIs() {
        FreezeCredits x = new FreezeCredits();
        x.addTeam(16);
        x.ask(0, 4);
        x.ask(0, 9);
        x.exempt(0);
        Check.same("what is held and all that is free", 12 + 4, x.make(0, true));
        Check.same("free", 0, x.team(0, 0));
        Check.same("nothing to burn", 0, x.make(1, true));
        Check.same("burnt", 16, x.whole(14));
    }

    private static void makeRefused() {
        FreezeCredits x = new FreezeCredits();
        Check.refused("make without changes", Check.INDEX, x, () -> x.make(0, true));
        x.addTeam(20);
        x.ask(0, 1);
        x.ask(0, 1);
        x.ask(0, 1);
        Check.refused("make(-1)", Check.INDEX, x, () -> x.make(-1, false));
        Check.refused("make(3)", Check.INDEX, x, () -> x.make(3, true));
        x.freeze(0, 0, true);
        Check.refused("done in a frozen week", Check.STATE, x, () -> x.make(0, false));
        Check.refused("faulty in a frozen week", Check.STATE, x, () -> x.make(0, true));
        x.exempt(0);
        x.make(0, false);
        x.freeze(0, 0, false);
        Check.refused("made again", Check.STATE, x, () -> x.make(0, false));
        x.make(1, true);
        Check.refused("made again after a fault", Check.STATE, x, () -> x.make(1, false));
        x.giveUp(2);
        Check.refused("made after it was given up", Check.STATE, x, () -> x.make(2, false));
    }

    private static void giveUp() {
        FreezeCredits x = new FreezeCredits();
        x.addTeam(20);
        x.ask(0, 5);
        x.ask(0, 1);
        x.exempt(0);
        x.set(0, 1);
        x.freeze(0, 5, true);
        Check.same("an exempt one", 15, x.giveUp(0));
        Check.same("state", 4, x.change(0, 2));
        Check.same("held", 0, x.change(0, 3));
        Check.same("made in", -1, x.change(0, 5));
        Check.same("was exempt when made", 0, x.change(0, 6));
        Check.same("free", 20, x.team(0, 0));
        Check.same("one that is asked for", 0, x.giveUp(1));
        Check.same("none waits", -1, x.waiting(0));
        Check.same("undo of giveUp", 3, x.undo());
        Check.same("the second waits again", 1, x.waiting(0));
        Check.same("undo of giveUp", 2, x.undo());
        Check.same("free after undo", 5, x.team(0, 0));
        Check.same("held after undo", 15, x.change(0, 3));
    }

    private static void giveUpRefused() {
        FreezeCredits x = new FreezeCredits();
        Check.refused("giveUp without changes", Check.INDEX, x, () -> x.giveUp(0));
        x.addTeam(20);
        x.ask(0, 1);
        x.ask(0, 1);
        x.ask(0, 1);
        Check.refused("giveUp(-1)", Check.INDEX, x, () -> x.giveUp(-1));
        Check.refused("giveUp(3)", Check.INDEX, x, () -> x.giveUp(3));
        x.make(0, false);
        x.make(1, true);
        x.giveUp(2);
        for (int i = 0; i < 3; i++) {
            int change = i;
            Check.refused("giveUp of " + change, Check.STATE, x, () -> x.giveUp(change));
        }
    }
}
