import java.math.BigInteger;

/** The boundary cases that the document names for promises 24 to 28, and for texts, undo and exceptions. */
final class BoundaryTextsTest {
    private static final Boundary.State EMPTY = Boundary::empty;
    private static final Boundary.State BUSY = Boundary::busy;
    private static final Boundary.State FULL = Boundary::full;
    private static final Boundary.State LAST_WEEK = Boundary::lastWeek;

    private static final String[] WORDS = {"team", "freeze", "thaw", "ask", "exempt", "done", "fault", "drop", "lend",
        "repay", "set", "week"};
    private static final int[] NUMBERS = {1, 2, 2, 2, 1, 1, 1, 1, 4, 2, 2, 0};

    private static final int NONE_STANDS = -1;

    public static void main(String[] args) {
        type();
        typeUpToTheLastByte();
        clearCommands();
        noCommands();
        numbersOfEachWord();
        wordsThatAreNone();
        bytesBehindAWord();
        bytesOfNumbers();
        bytesBehindACommand();
        numbersOfOneToThreeDigits();
        numbersOutOfRange();
        textsThatEndTooSoon();
        fullTexts();
        runsOfAFault();
        runsUntilOneWouldThrow();
        runsUntilTheRowsAreFull();
        aRunSavesOneState();
        undoKeepsFour();
        undoOfCallsThatChangeNothing();
        undoIsNotUndone();
        digest();
        Check.end();
    }

    private static int run(Boundary.State state, String text) {
        FreezeCredits x = Boundary.made(state);
        x.clearCommands();
        Boundary.write(x, text);
        return x.runCommands();
    }

    private static void stands(String text) {
        int answer = run(EMPTY, text);
        if (answer < 0) {
            Check.fail("'" + text + "' has the fault " + (-10 - answer));
        }
    }

    private static void fault(String text, int due) {
        Check.same("'" + text + "'", -10 - due, run(EMPTY, text));
    }

    private static String times(int count, String text) {
        return text.repeat(count);
    }

    // ---- promise 24

    private static void type() {
        Boundary.range("byte", Check.ARGUMENT, EMPTY, 0, 127, FreezeCredits::type);
        Boundary.range("byte", Check.ARGUMENT, BUSY, 0, 127, FreezeCredits::type);
        Boundary.outside("byte of a full text", Check.ARGUMENT, FULL, 0, 127, FreezeCredits::type);
        for (int i = 0; i < 128; i++) {
            int value = i;
            Boundary.answers("byte " + value, 1, EMPTY, x -> x.type(value));
        }
    }

    private static void typeUpToTheLastByte() {
        for (int i = 0; i < 150; i++) {
            int length = i;
            Boundary.answers("a byte behind " + length, length + 1, x -> Boundary.write(x, times(length, "a")),
                    x -> x.type(127));
        }
        int[] bytes = {0, ' ', ';', 'w', 127};
        for (int value : bytes) {
            Boundary.refuses("byte " + value + " behind 150", Check.STATE, FULL, x -> x.type(value));
        }
        Boundary.answers("a byte behind 150 that were emptied", 1, FULL, x -> {
            x.clearCommands();
            return x.type(0);
        });
    }

    // ---- promise 25

    private static void clearCommands() {
        Boundary.answers("an empty text", 0, EMPTY, FreezeCredits::clearCommands);
        Boundary.answers("a full text", 150, FULL, FreezeCredits::clearCommands);
        Boundary.answers("a text that was emptied", 0, FULL, x -> {
            x.clearCommands();
            return x.clearCommands();
        });
        Boundary.answers("the length then", 0, FULL, x -> {
            x.clearCommands();
            return x.whole(17);
        });
        Boundary.answers("a run then", 0, FULL, x -> {
            x.clearCommands();
            return x.runCommands();
        });
        Boundary.refuses("it saves no state", Check.STATE, FreezeCredits::clearCommands, FreezeCredits::undo);
        Boundary.refuses("type saves no state", Check.STATE, x -> x.type(' '), FreezeCredits::undo);
    }

    // ---- promise 26

    private static void noCommands() {
        for (int spaces = 0; spaces <= 150; spaces++) {
            FreezeCredits x = new FreezeCredits();
            Boundary.write(x, times(spaces, " "));
            Check.same("a run of " + spaces + " spaces", 0, x.runCommands());
            Check.same("states that it saved", 0, x.undo());
        }
    }

    private static void numbersOfEachWord() {
        for (int verb = 0; verb < WORDS.length; verb++) {
            String word = WORDS[verb];
            for (int numbers = 0; numbers <= 5; numbers++) {
                String text = word + times(numbers, " 1");
                if (numbers == NUMBERS[verb]) {
                    stands(text + ";");
                    stands("  " + text.replace(" ", "   ") + "  ;  ");
                    fault(text, text.length());
                    fault(text + " ", text.length() + 1);
                } else if (numbers < NUMBERS[verb]) {
                    fault(text + ";", text.length());
                    fault(text + " ;", text.length() + 1);
                } else {
                    fault(text + ";", word.length() + 2 * NUMBERS[verb] + 1);
                }
            }
        }
    }

    private static void wordsThatAreNone() {
        for (int verb = 0; verb < WORDS.length; verb++) {
            String word = WORDS[verb];
            String rest = times(NUMBERS[verb], " 1") + ";";
            for (int length = 1; length < word.length(); length++) {
                String cut = word.substring(0, length);
                fault(cut, 0);
                fault(cut + rest, 0);
                fault("week;" + cut + rest, 5);
                fault("  " + cut + " ", 2);
                fault(word.substring(length) + rest, 0);
            }
            for (char letter = 'a'; letter <= 'z'; letter++) {
                fault(word + letter + rest, 0);
                fault(word + letter, 0);
                fault(letter + word + rest, 0);
                fault(" " + letter + rest, 1);
            }
            fault(word.toUpperCase() + rest, 0);
            fault(word.substring(0, 1).toUpperCase() + word.substring(1) + rest, 0);
            fault(word.substring(0, 1) + word.substring(1).toUpperCase() + rest, 0);
        }
        fault(times(150, "a"), 0);
        fault(" " + times(149, "z"), 1);
        fault("weekweek;", 0);
        fault("teamweek 1;", 0);
    }

    private static void bytesBehindAWord() {
        for (int value = 0; value < 128; value++) {
            char sign = (char) value;
            boolean letter = value >= 'a' && value <= 'z';
            boolean closes = value == ' ' || value == ';';
            followed("", value, value == ' ' ? NONE_STANDS : 0);
            followed(" ", value, value == ' ' ? NONE_STANDS : 1);
            fault("wee" + sign, sign == 'k' ? 4 : 0);
            followed("week", value, letter ? 0 : value == ';' ? NONE_STANDS : value == ' ' ? 5 : 4);
            followed("week" + sign + ";", 'x', letter ? 0 : !closes ? 4 : value == ' ' ? 6 : 5);
            followed("team", value, letter ? 0 : value == ' ' ? 5 : 4);
            followed("team ", value, value == ' ' || isDigit(value) ? 6 : 5);
            followed("week ", value, value == ';' ? NONE_STANDS : value == ' ' ? 6 : 5);
        }
    }

    /** The text and a byte behind it, with the fault due. */
    private static void followed(String text, int value, int due) {
        if (due == NONE_STANDS) {
            stands(text + (char) value);
        } else {
            fault(text + (char) value, due);
        }
    }

    private static boolean isDigit(int value) {
        return value >= '0' && value <= '9';
    }

    private static void bytesOfNumbers() {
        for (int value = 0; value < 128; value++) {
            int behindOne = isDigit(value) || value == ' ' ? 7 : value == ';' ? NONE_STANDS : 6;
            followed("team 5", value, behindOne);
            followed("team 55", value, behindOne < 0 ? behindOne : behindOne + 1);
            followed("team 555", value, value == ' ' ? 9 : value == ';' ? NONE_STANDS : 8);
            followed("team 5 ", value, value == ' ' ? 8 : value == ';' ? NONE_STANDS : 7);
            followed("thaw 5", value, isDigit(value) || value == ' ' ? 7 : 6);
            followed("thaw 555", value, value == ' ' ? 9 : 8);
            followed("thaw 5 ", value, isDigit(value) || value == ' ' ? 8 : 7);
            followed("thaw 5 7", value, isDigit(value) || value == ' ' ? 9 : value == ';' ? NONE_STANDS : 8);
            followed("lend 1 2 3", value, isDigit(value) || value == ' ' ? 11 : 10);
            followed("lend 1 2 3 444", value, value == ' ' ? 15 : value == ';' ? NONE_STANDS : 14);
        }
    }

    private static void bytesBehindACommand() {
        for (int value = 0; value < 128; value++) {
            followed("week;", value, value == ' ' ? NONE_STANDS : 5);
            followed("week; ", value, value == ' ' ? NONE_STANDS : 6);
            followed("team 5 ; week ;  ", value, value == ' ' ? NONE_STANDS : 17);
        }
    }

    private static void numbersOfOneToThreeDigits() {
        for (int number = 0; number < 1000; number++) {
            String padded = "" + (1000 + number);
            carriesOut("team " + number + ";", number);
            carriesOut("team " + padded.substring(1) + ";", number);
            if (number < 100) {
                carriesOut("team " + padded.substring(2) + " ;", number);
            }
            fault("team " + padded + ";", 8);
            fault("team 0" + padded.substring(1) + ";", 8);
        }
    }

    private static void carriesOut(String text, int credits) {
        FreezeCredits x = new FreezeCredits();
        Boundary.write(x, text);
        Check.same(text, 1, x.runCommands());
        Check.same(text + " brings", credits, x.team(0, 0));
    }

    private static void numbersOutOfRange() {
        String[] texts = {"freeze 0 40;", "freeze 40 999;", "thaw 3 2;", "ask 6 1;", "ask 0 0;", "ask 0 10;",
            "exempt 30;", "done 999;", "fault 30;", "drop 30;", "lend 0 6 1 1;", "lend 6 0 1 1;", "lend 0 0 1 1;",
            "lend 0 1 0 1;", "lend 0 1 501 1;", "lend 0 1 1 40;", "repay 12 1;", "repay 0 0;", "repay 0 501;",
            "set 4 1;", "set 0 0;", "set 0 21;", "set 1 51;", "set 2 51;", "set 3 0;", "team 1;"};
        for (String text : texts) {
            Check.same(text + " of a full one", 0, run(FULL, text + "week;"));
            FreezeCredits x = Boundary.made(FULL);
            x.clearCommands();
            Boundary.write(x, text + "week;");
            x.runCommands();
            Check.same(text + " is carried out by none", 0, x.whole(8));
            Check.same(text + " saved a state", 3, x.undo());
        }
        Check.same("the greatest number of a setting that a text can tell", 1, run(EMPTY, "set 3 999;"));
    }

    private static void textsThatEndTooSoon() {
        String text = " lend 0 11  222 3 ;week;";
        int[] due = {NONE_STANDS, NONE_STANDS, 1, 1, 1, 5, 6, 7, 8, 9, 10, 11, 12, 13, 14, 15, 16, 17, 18, NONE_STANDS,
            19, 19, 19, 23, NONE_STANDS};
        for (int length = 0; length <= text.length(); length++) {
            if (due[length] == NONE_STANDS) {
                stands(text.substring(0, length));
            } else {
                fault(text.substring(0, length), due[length]);
            }
        }
    }

    private static void fullTexts() {
        String almost = times(29, "week;");
        Check.same("30 commands", 30, run(EMPTY, almost + "week;"));
        Check.same("29 commands and spaces", 29, run(EMPTY, almost + times(5, " ")));
        Check.same("a semicolon as the last byte", 1, run(EMPTY, times(145, " ") + "week;"));
        Check.same("spaces in front of it", 1, run(EMPTY, "week" + times(145, " ") + ";"));
        fault(almost + "week ", 150);
        fault(almost + " week", 150);
        fault(almost + "weeks", 145);
        fault(almost + "wee; ", 145);
        fault(almost + "    x", 149);
        fault(almost + "    ;", 149);
        fault(almost + "week1", 149);
        fault(almost + "set 1", 150);
        fault(almost + "team ", 150);
        fault(almost + "ask;;", 148);
        fault(times(150, ";"), 0);
        fault("team" + times(146, " "), 150);
        fault("team 1" + times(144, "1"), 8);
    }

    private static void runsOfAFault() {
        Boundary.State[] states = {EMPTY, BUSY, FULL, LAST_WEEK};
        for (Boundary.State state : states) {
            FreezeCredits x = withText(state, "week;team 5;set 0 9;week");
            FreezeCredits twin = withText(state, "week;team 5;set 0 9;week");
            for (int times = 0; times < 3; times++) {
                Check.same("the text ends too soon", -10 - 24, x.runCommands());
            }
            Check.same("a run of a fault does nothing", twin.digest(), x.digest());
            for (int undone = 0; undone < 4; undone++) {
                Check.same("nor does it save a state", undo(twin), undo(x));
                Check.same("nor drop one", twin.digest(), x.digest());
            }
        }
    }

    private static FreezeCredits withText(Boundary.State state, String text) {
        FreezeCredits x = Boundary.made(state);
        x.clearCommands();
        Boundary.write(x, text);
        return x;
    }

    private static int undo(FreezeCredits x) {
        try {
            return x.undo();
        } catch (IllegalStateException e) {
            return -99;
        }
    }

    /** One command that would throw stands before, between and behind three others. */
    private static void runsUntilOneWouldThrow() {
        String[] good = {"team 5;", "set 0 9;", "week;"};
        for (int place = 0; place <= 3; place++) {
            StringBuilder text = new StringBuilder();
            FreezeCredits twin = new FreezeCredits();
            for (int i = 0; i <= 3; i++) {
                text.append(i == place ? "exempt 0;" : "");
                text.append(i < 3 ? good[i] : "");
            }
            FreezeCredits x = withText(EMPTY, text.toString());
            Check.same(text.toString(), place, x.runCommands());
            Check.same(text + " teams", place >= 1 ? 1 : 0, x.whole(0));
            Check.same(text + " price", place >= 2 ? 9 : 3, x.whole(4));
            Check.same(text + " week", place >= 3 ? 1 : 0, x.whole(8));
            Check.same(text + " stays", text.length(), x.whole(17));
            Check.same(text + " states", 0, x.undo());
            x.clearCommands();
            Check.same(text + " undone", twin.digest(), x.digest());
        }
    }

    private static void runsUntilTheRowsAreFull() {
        Check.same("teams", 6, run(EMPTY, times(7, "team 999;") + "week;"));
        Check.same("changes", 15, run(x -> {
            x.addTeam(0);
            for (int change = 0; change < 15; change++) {
                x.ask(0, 9);
            }
        }, times(16, "ask 0 1;") + "week;"));
        Check.same("loans", 10, run(x -> {
            x.addTeam(12);
            x.addTeam(0);
            x.lend(0, 1, 1, 0);
            x.lend(0, 1, 1, 0);
        }, times(11, "lend 0 1 1 0;") + "week;"));
        Check.same("weeks", 1, run(x -> Boundary.endWeeks(x, 38), times(3, "week;")));
        Check.same("no week", 0, run(LAST_WEEK, "week;done 0;"));
    }

    private static void aRunSavesOneState() {
        for (int commands = 0; commands <= 30; commands++) {
            FreezeCredits x = withText(EMPTY, times(commands, "week;"));
            Check.same("commands", commands, x.runCommands());
            Check.same("states of a run of " + commands, 0, x.undo());
            Check.same("week", 0, x.whole(8));
            Check.same("the text stays", 5 * commands, x.whole(17));
        }
        FreezeCredits x = Boundary.made(FULL);
        x.runCommands();
        for (int left = 3; left >= 0; left--) {
            Check.same("a run drops the oldest state alone", left, x.undo());
        }
    }

    // ---- promise 27

    private static void undoKeepsFour() {
        Boundary.refuses("undo of nothing", Check.STATE, EMPTY, FreezeCredits::undo);
        for (int saved = 0; saved <= 9; saved++) {
            FreezeCredits x = new FreezeCredits();
            Boundary.endWeeks(x, saved);
            int kept = Math.min(4, saved);
            for (int left = kept - 1; left >= 0; left--) {
                Check.same("states left of " + saved, left, x.undo());
                Check.same("week", saved - kept + left, x.whole(8));
            }
            Check.refused("undo of no state left of " + saved, Check.STATE, x, x::undo);
            Check.same("the week of the oldest state kept", saved - kept, x.whole(8));
        }
    }

    private static void undoOfCallsThatChangeNothing() {
        Boundary.answers("set of the same value", 0, x -> x.set(0, 3), FreezeCredits::undo);
        Boundary.answers("thaw of weeks that are not frozen", 0, x -> x.freeze(0, 39, false), FreezeCredits::undo);
        Boundary.answers("run of no command", 0, FreezeCredits::runCommands, FreezeCredits::undo);
        Boundary.answers("run of one that would throw", 0, x -> {
            Boundary.write(x, "done 0;");
            x.runCommands();
        }, FreezeCredits::undo);
        FreezeCredits x = new FreezeCredits();
        x.addTeam(1);
        for (int call = 0; call < 4; call++) {
            x.set(0, 3);
        }
        for (int call = 0; call < 4; call++) {
            x.undo();
        }
        Check.same("they drop older states too", 1, x.whole(0));
        Check.refused("and none is left", Check.STATE, x, x::undo);
    }

    private static void undoIsNotUndone() {
        FreezeCredits x = new FreezeCredits();
        x.addTeam(1);
        x.addTeam(2);
        x.undo();
        Check.same("undo saves no state", 0, x.undo());
        Check.same("teams", 0, x.whole(0));
        x.addTeam(3);
        x.type('a');
        x.type('b');
        x.undo();
        Check.same("the text is not brought back", 2, x.whole(17));
        x.addTeam(3);
        x.clearCommands();
        x.undo();
        Check.same("nor is a text that was emptied", 0, x.whole(17));
    }

    // ---- promise 28

    private static void digest() {
        Boundary.State[] states = {EMPTY, BUSY, FULL, LAST_WEEK, x -> x.freeze(0, 39, true)};
        for (int i = 0; i < states.length; i++) {
            Boundary.State state = states[i];
            Check.same("digest of state " + i, byPublicCalls(state), Boundary.made(state).digest());
        }
    }

    /** The hash in whole numbers that never overflow, of which 64 bits are taken at last. */
    private static long byPublicCalls(Boundary.State state) {
        Hash hash = new Hash(state);
        hash.add(states(state));
        hash.row(18, (x, what) -> x.whole(what));
        hash.row(40, (x, week) -> x.frozen(week));
        FreezeCredits counts = Boundary.made(state);
        for (int i = 0; i < counts.whole(0); i++) {
            int team = i;
            hash.row(11, (x, what) -> x.team(team, what));
            hash.row(1, (x, none) -> x.exemptible(team));
        }
        for (int i = 0; i < counts.whole(1); i++) {
            int change = i;
            hash.row(7, (x, what) -> x.change(change, what));
        }
        int waiting = 0;
        while (counts.waiting(waiting) >= 0) {
            waiting++;
        }
        hash.row(waiting, (x, index) -> x.waiting(index));
        for (int i = 0; i < counts.whole(2); i++) {
            int loan = i;
            hash.row(6, (x, what) -> x.loan(loan, what));
        }
        hash.row(1, (x, none) -> x.nextThaw());
        return hash.value.longValue();
    }

    private static int states(Boundary.State state) {
        FreezeCredits x = Boundary.made(state);
        int states = 0;
        while (undo(x) >= 0) {
            states++;
        }
        return states;
    }

    /** An object answers no more than 512 calls, so that each row of values is asked of a new one. */
    private static final class Hash {
        final Boundary.State state;
        BigInteger value = BigInteger.valueOf(43672);

        Hash(Boundary.State state) {
            this.state = state;
        }

        void add(long next) {
            value = value.multiply(BigInteger.valueOf(31)).add(BigInteger.valueOf(next));
        }

        void row(int count, Boundary.NumberCall call) {
            FreezeCredits x = Boundary.made(state);
            for (int i = 0; i < count; i++) {
                add(call.on(x, i));
            }
        }
    }
}
