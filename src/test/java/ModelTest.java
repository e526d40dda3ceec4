/** Long runs of calls, always the same ones, in which every answer and digest must be the model's. */
final class ModelTest {
    private static final int RUNS = 1500;
    private static final int CALLS = 512;
    private static final String[] WORDS = {"team", "freeze", "thaw", "ask", "exempt", "done", "fault", "drop",
        "lend", "repay", "set", "week"};
    private static final int[] NUMBERS = {1, 2, 2, 2, 1, 1, 1, 1, 4, 2, 2, 0};
    private static final int[] ODD = {-1, -2, 40, 41, 150, 500, 501, 999, 1000, 2000, 2001,
        Integer.MIN_VALUE, Integer.MAX_VALUE};

    private final Picks picks;
    private final FreezeCredits x = new FreezeCredits();
    private final Model model = new Model();
    private String call;
    private boolean failed = false;

    private interface Answer {
        long get();
    }

    /** Numbers that look picked at will, but are the same ones each time. */
    private static final class Picks {
        private long state;

        Picks(long seed) {
            state = seed * 0x9E3779B97F4A7C15L + 1;
        }

        int nextInt(int bound) {
            state = state * 6364136223846793005L + 1442695040888963407L;
            return (int) ((state >>> 33) % bound);
        }
    }

    private ModelTest(long seed) {
        picks = new Picks(seed);
    }

    public static void main(String[] args) {
        for (int run = 0; run < RUNS; run++) {
            new ModelTest(run).run("run " + run);
        }
        Check.end();
    }

    private void run(String name) {
        int weekWeight = 1 + picks.nextInt(8);
        for (int i = 0; i < CALLS; i++) {
            step(weekWeight);
            if (picks.nextInt(8) == 0) {
                call = "digest";
                same(x::digest, model::digest);
            }
            if (failed) {
                System.out.println("  in " + name + ", call " + i);
                return;
            }
        }
        call = "digest";
        same(x::digest, model::digest);
    }

    private void same(Answer got, Answer due) {
        long answer;
        try {
            answer = got.get();
        } catch (RuntimeException e) {
            answer = e.getClass() == IndexOutOfBoundsException.class ? Model.INDEX
                    : e.getClass() == IllegalArgumentException.class ? Model.ARGUMENT
                    : e.getClass() == IllegalStateException.class ? Model.STATE : -9999;
        }
        long wanted = due.get();
        failed = failed || answer != wanted;
        Check.same(call, wanted, answer);
    }

    private int odd() {
        return ODD[picks.nextInt(ODD.length)];
    }

    /** A number from low to high, or sometimes one beside them or far away. */
    private int between(int low, int high) {
        int kind = picks.nextInt(60);
        if (kind == 0) {
            return odd();
        }
        if (kind == 1) {
            return low - 1;
        }
        if (kind == 2) {
            return high + 1;
        }
        return low + picks.nextInt(Math.max(1, high - low + 1));
    }

    private int aTeam() {
        return between(0, (int) model.whole(0) - 1);
    }

    private int aChange() {
        if (picks.nextInt(3) > 0) {
            int index = picks.nextInt(6);
            long waiting = model.waiting(index);
            if (waiting >= 0) {
                return (int) waiting;
            }
        }
        return between(0, (int) model.whole(1) - 1);
    }

    private int aLoan() {
        return between(0, (int) model.whole(2) - 1);
    }

    private int aWeek() {
        int week = (int) model.whole(8);
        return picks.nextInt(4) > 0 ? Math.min(39, week + picks.nextInt(4)) : between(0, 39);
    }

    private int credits() {
        return picks.nextInt(3) > 0 ? picks.nextInt(60) : between(0, 999);
    }

    private int aRisk() {
        return between(1, 9);
    }

    private void step(int weekWeight) {
        int kind = picks.nextInt(100);
        if (kind < 3 || (model.whole(0) < 2 && kind < 40)) {
            int c = credits();
            call = "addTeam(" + c + ")";
            same(() -> x.addTeam(c), () -> model.addTeam(c));
        } else if (kind < 6) {
            int a = aWeek();
            int b = picks.nextInt(5) > 0 ? Math.min(39, a + picks.nextInt(5)) : aWeek();
            boolean on = picks.nextInt(5) > 1;
            call = "freeze(" + a + ", " + b + ", " + on + ")";
            same(() -> x.freeze(a, b, on), () -> model.freeze(a, b, on));
        } else if (kind < 9) {
            int what = between(0, 3);
            int value = picks.nextInt(3) > 0 ? between(1, 10) : between(0, what == 3 ? 200 : 50);
            call = "set(" + what + ", " + value + ")";
            same(() -> x.set(what, value), () -> model.set(what, value));
        } else if (kind < 9 + weekWeight) {
            call = "endWeek()";
            same(x::endWeek, model::endWeek);
        } else if (kind < 26) {
            int t = aTeam();
            int r = aRisk();
            call = "ask(" + t + ", " + r + ")";
            same(() -> x.ask(t, r), () -> model.ask(t, r));
        } else if (kind < 50) {
            stepOfAChange();
        } else if (kind < 60) {
            stepOfALoan();
        } else if (kind < 85) {
            question();
        } else if (kind < 96) {
            commands();
        } else {
            call = "undo()";
            same(x::undo, model::undo);
        }
    }

    private void stepOfAChange() {
        int c = aChange();
        switch (picks.nextInt(6)) {
            case 0, 1, 2:
                call = "exempt(" + c + ")";
                same(() -> x.exempt(c), () -> model.exempt(c));
                break;
            case 3, 4:
                boolean fault = picks.nextInt(2) == 0;
                call = "make(" + c + ", " + fault + ")";
                same(() -> x.make(c, fault), () -> model.make(c, fault));
                break;
            default:
                call = "giveUp(" + c + ")";
                same(() -> x.giveUp(c), () -> model.giveUp(c));
                break;
        }
    }

    private void stepOfALoan() {
        int from = aTeam();
        int to = aTeam();
        int amount = picks.nextInt(4) > 0 ? 1 + picks.nextInt(25) : between(1, 500);
        int due = aWeek();
        int loan = aLoan();
        if (picks.nextInt(3) > 0) {
            call = "lend(" + from + ", " + to + ", " + amount + ", " + due + ")";
            same(() -> x.lend(from, to, amount, due), () -> model.lend(from, to, amount, due));
        } else {
            call = "repay(" + loan + ", " + amount + ")";
            same(() -> x.repay(loan, amount), () -> model.repay(loan, amount));
        }
    }

    private void question() {
        int t = aTeam();
        int c = aChange();
        int l = aLoan();
        int r = aRisk();
        int w = between(0, 39);
        int what = between(0, 10);
        switch (picks.nextInt(12)) {
            case 0: call = "team(" + t + ", " + what + ")"; same(() -> x.team(t, what), () -> model.team(t, what)); break;
            case 1: call = "change(" + c + ", " + what + ")"; same(() -> x.change(c, what), () -> model.change(c, what)); break;
            case 2: call = "loan(" + l + ", " + what + ")"; same(() -> x.loan(l, what), () -> model.loan(l, what)); break;
            case 3: call = "waiting(" + what + ")"; same(() -> x.waiting(what), () -> model.waiting(what)); break;
            case 4: call = "frozen(" + w + ")"; same(() -> x.frozen(w), () -> model.frozen(w)); break;
            case 5: call = "whole(" + w / 2 + ")"; same(() -> x.whole(w / 2), () -> model.whole(w / 2)); break;
            case 6: call = "reason(" + c + ")"; same(() -> x.reason(c), () -> model.reason(c)); break;
            case 7: call = "exemptible(" + t + ")"; same(() -> x.exemptible(t), () -> model.exemptible(t)); break;
            case 8: call = "weeksUntil(" + t + ", " + r + ")"; same(() -> x.weeksUntil(t, r), () -> model.weeksUntil(t, r)); break;
            case 9: call = "lender(" + t + ", " + r + ")"; same(() -> x.lender(t, r), () -> model.lender(t, r)); break;
            case 10: call = "nextThaw()"; same(x::nextThaw, model::nextThaw); break;
            default: call = "inBeing(" + w + ")"; same(() -> x.inBeing(w), () -> model.inBeing(w)); break;
        }
    }

    private void commands() {
        if (picks.nextInt(5) > 0) {
            call = "clearCommands()";
            same(x::clearCommands, model::clearCommands);
        }
        StringBuilder text = new StringBuilder();
        for (int commands = picks.nextInt(6); commands > 0; commands--) {
            appendCommand(text);
        }
        if (picks.nextInt(3) == 0) {
            spoil(text);
        }
        for (int i = 0; i < text.length(); i++) {
            int value = text.charAt(i);
            call = "type(" + value + ")";
            same(() -> x.type(value), () -> model.type(value));
        }
        if (picks.nextInt(20) == 0) {
            int value = picks.nextInt(2) == 0 ? 128 : odd();
            call = "type(" + value + ")";
            same(() -> x.type(value), () -> model.type(value));
        }
        call = "runCommands() of " + text;
        same(x::runCommands, model::runCommands);
    }

    private void appendCommand(StringBuilder text) {
        int verb = picks.nextInt(WORDS.length);
        spaces(text, 0);
        text.append(WORDS[verb]);
        int[] numbers = numbersFor(WORDS[verb]);
        for (int i = 0; i < NUMBERS[verb]; i++) {
            spaces(text, 1);
            int number = Math.abs(numbers[i] % 1000);
            if (number < 100 && picks.nextInt(6) == 0) {
                text.append('0');
            }
            text.append(number);
        }
        spaces(text, 0);
        text.append(';');
    }

    private int[] numbersFor(String word) {
        switch (word) {
            case "team": return new int[] {credits()};
            case "freeze", "thaw": return new int[] {aWeek(), aWeek()};
            case "ask": return new int[] {aTeam(), aRisk()};
            case "lend": return new int[] {aTeam(), aTeam(), 1 + picks.nextInt(20), aWeek()};
            case "repay": return new int[] {aLoan(), 1 + picks.nextInt(20)};
            case "set": return new int[] {between(0, 3), between(0, 20)};
            default: return new int[] {aChange()};
        }
    }

    private void spaces(StringBuilder text, int least) {
        int count = least + (picks.nextInt(6) == 0 ? 1 + picks.nextInt(2) : 0);
        for (int i = 0; i < count; i++) {
            text.append(' ');
        }
    }

    private void spoil(StringBuilder text) {
        String signs = " ;09azw`{/:A-\t\u0000\u007f";
        int at = picks.nextInt(text.length() + 1);
        switch (picks.nextInt(4)) {
            case 0: text.insert(at, signs.charAt(picks.nextInt(signs.length()))); break;
            case 1: text.setLength(at); break;
            case 2:
                if (at < text.length()) {
                    text.deleteCharAt(at);
                }
                break;
            default:
                if (at < text.length()) {
                    text.setCharAt(at, signs.charAt(picks.nextInt(signs.length())));
                }
                break;
        }
    }
}
