/** Promises 24 to 26: type, clearCommands, runCommands. */
final class CommandsTest {
    public static void main(String[] args) {
        type();
        typeRefused();
        clearCommands();
        noFault();
        faultsOfWords();
        faultsOfNumbers();
        faultsOfEnds();
        aFaultDoesNothing();
        everyCommand();
        stopsAtTheFirstRefusal();
        everyRefusal();
        oneStateForARun();
        theTextStays();
        nothingOfOlderTexts();
        fullText();
        Check.end();
    }

    private static void write(FreezeCredits x, String text) {
        for (int i = 0; i < text.length(); i++) {
            x.type(text.charAt(i));
        }
    }

    private static int run(FreezeCredits x, String text) {
        x.clearCommands();
        write(x, text);
        return x.runCommands();
    }

    private static void fault(String text, int due) {
        FreezeCredits x = new FreezeCredits();
        Check.same("fault of '" + text + "'", -10 - due, run(x, text));
        Check.same("teams behind '" + text + "'", 0, x.whole(0));
        Check.refused("undo behind '" + text + "'", Check.STATE, x, () -> x.undo());
    }

    private static void runs(String text, int due) {
        FreezeCredits x = new FreezeCredits();
        Check.same("commands of '" + text + "'", due, run(x, text));
        Check.same("states on the stack", 0, x.undo());
    }

    private static void type() {
        FreezeCredits x = new FreezeCredits();
        Check.same("type(0)", 1, x.type(0));
        Check.same("type(127)", 2, x.type(127));
        Check.same("length", 2, x.whole(17));
        Check.refused("no state is saved", Check.STATE, x, () -> x.undo());
    }

    private static void typeRefused() {
        FreezeCredits x = new FreezeCredits();
        for (int length = 1; length <= 150; length++) {
            Check.refused("type(-1)", Check.ARGUMENT, x, () -> x.type(-1));
            Check.refused("type(128)", Check.ARGUMENT, x, () -> x.type(128));
            Check.same("type", length, x.type(' '));
        }
        Check.refused("a 151st byte", Check.STATE, x, () -> x.type(' '));
        Check.refused("a 151st byte of -1", Check.ARGUMENT, x, () -> x.type(-1));
        Check.refused("type(MIN)", Check.ARGUMENT, x, () -> x.type(Integer.MIN_VALUE));
        Check.refused("type(MAX)", Check.ARGUMENT, x, () -> x.type(Integer.MAX_VALUE));
        Check.same("150 spaces run", 0, x.runCommands());
    }

    private static void clearCommands() {
        FreezeCredits x = new FreezeCredits();
        Check.same("of an empty text", 0, x.clearCommands());
        write(x, "week");
        Check.same("of four bytes", 4, x.clearCommands());
        Check.same("length", 0, x.whole(17));
        write(x, ";");
        Check.same("nothing of the old text is left", -10, x.runCommands());
        Check.refused("no state is saved", Check.STATE, x, () -> x.undo());
    }

    private static void noFault() {
        runs("", 0);
        runs("   ", 0);
        runs("week;", 1);
        runs("  week  ;  week;week ; ", 3);
        runs("team 5;", 1);
        runs("team   005   ;", 1);
        runs("team 999;", 1);
        runs("team 1;lend 0 1 2 3;", 1);
        runs("set 0 20;set 0 21;week;", 1);
    }

    private static void faultsOfWords() {
        fault("tea", 0);
        fault("te 5;", 0);
        fault("teams 5;", 0);
        fault("teamteam 5;", 0);
        fault("week;teams 5;", 5);
        fault("week; tea", 6);
        fault("week;  x", 7);
        fault("weeks;", 0);
        fault("xeek;", 0);
        fault("teAm 5;", 0);
        fault("Team 5;", 0);
        fault("te1;", 0);
        fault("make 0 0;", 0);
        fault("zz\u0000", 0);
        fault(";", 0);
        fault(" ;", 1);
        fault("5", 0);
        fault("week;;", 5);
        fault("week\t;", 4);
        fault("\nweek;", 0);
        fault("week;\u007f", 5);
    }

    private static void faultsOfNumbers() {
        fault("team5;", 4);
        fault("team;", 4);
        fault("team ;", 5);
        fault("team x;", 5);
        fault("team -1;", 5);
        fault("team 1000;", 8);
        fault("team 0001;", 8);
        fault("team 5 5;", 7);
        fault("team 5x;", 6);
        fault("team 5 x;", 7);
        fault("team\t5;", 4);
        fault("freeze 1;", 8);
        fault("freeze 1 ;", 9);
        fault("freeze 1,2;", 8);
        fault("freeze 1111 2;", 10);
        fault("week 1;", 5);
        fault("week1;", 4);
        fault("lend 0 1 2;", 10);
        fault("lend 0 1 2 3 4;", 13);
        fault("lend 0 1 2 3333;", 14);
        fault("team 5;week;ask 0 /;", 18);
        fault("team :;", 5);
    }

    private static void faultsOfEnds() {
        fault("team", 4);
        fault("team ", 5);
        fault("team 5", 6);
        fault("team 555", 8);
        fault("team 5 ", 7);
        fault("week", 4);
        fault("week  ", 6);
        fault("week;week", 9);
        fault("freeze 1", 8);
        fault("freeze 1 ", 9);
        fault("lend 0 1 2 ", 11);
    }

    private static void aFaultDoesNothing() {
        FreezeCredits x = new FreezeCredits();
        write(x, "team 5;week;tem 5;");
        Check.same("the fault", -22, x.runCommands());
        Check.same("teams", 0, x.whole(0));
        Check.same("week", 0, x.whole(8));
        Check.same("length", 18, x.whole(17));
        Check.refused("undo", Check.STATE, x, () -> x.undo());
    }

    private static void everyCommand() {
        FreezeCredits x = new FreezeCredits();
        Check.same("run", 7, run(x, "team 50;team 20;freeze 0 9;thaw 1 2;ask 0 4;ask 1 1;ask 0 2;"));
        Check.same("free of team 0", 50, x.team(0, 0));
        Check.same("free of team 1", 20, x.team(1, 0));
        Check.same("frozen weeks", 8, x.whole(9));
        Check.same("risk of change 1", 1, x.change(1, 1));
        Check.same("run", 9, run(x, "exempt 0; exempt 1; done 0; fault 1; drop 2; lend 0 1 12 3; repay 0 2; set 2 3; week;"));
        Check.same("state of change 0", 2, x.change(0, 2));
        Check.same("state of change 1", 3, x.change(1, 2));
        Check.same("state of change 2", 4, x.change(2, 2));
        Check.same("burnt", 5, x.whole(14));
        Check.same("giver", 0, x.loan(0, 0));
        Check.same("taker", 1, x.loan(0, 1));
        Check.same("amount", 12, x.loan(0, 2));
        Check.same("left", 10, x.loan(0, 3));
        Check.same("due", 3, x.loan(0, 4));
        Check.same("fine", 3, x.whole(6));
        Check.same("week", 1, x.whole(8));
    }

    private static void stopsAtTheFirstRefusal() {
        FreezeCredits x = new FreezeCredits();
        Check.same("run", 2, run(x, "team 5;week;exempt 0;week;week;"));
        Check.same("what stood before it is done", 1, x.whole(8));
        Check.same("teams", 1, x.whole(0));
        Check.same("none is carried out", 0, run(x, "ask 1 1;week;"));
        Check.same("week", 1, x.whole(8));
        Check.same("states on the stack", 1, x.undo());
        Check.same("states on the stack", 0, x.undo());
        Check.same("teams", 0, x.whole(0));
    }

    /** Each of these commands would throw, with two teams and a change in a frozen week 1. */
    private static void everyRefusal() {
        String[] commands = {
            "freeze 0 1", "freeze 1 40", "thaw 2 1", "thaw 0 0", "ask 2 1", "ask 0 0", "ask 0 10", "exempt 1",
            "exempt 0", "done 0", "fault 0", "done 1", "fault 999", "drop 1", "lend 0 2 1 1", "lend 0 0 1 1",
            "lend 0 1 0 1", "lend 0 1 501 1", "lend 0 1 1 40", "lend 0 1 1 0", "lend 0 1 9 1", "repay 2 1",
            "repay 0 0", "repay 0 501", "repay 0 6", "set 4 1", "set 0 0", "set 0 21", "set 3 0", "ask 999 1",
        };
        for (String command : commands) {
            FreezeCredits x = new FreezeCredits();
            run(x, "set 1 0;team 8;team 8;week;freeze 1 1;ask 0 9;lend 1 0 5 1;lend 0 1 5 1;");
            long digest = x.digest();
            Check.same(command, 0, run(x, command + ";week;"));
            x.undo();
            x.clearCommands();
            write(x, "set 1 0;team 8;team 8;week;freeze 1 1;ask 0 9;lend 1 0 5 1;lend 0 1 5 1;");
            Check.same(command + " changes nothing", digest, x.digest());
        }
        FreezeCredits x = new FreezeCredits();
        Check.same("seven teams", 6, run(x, "team 1;team 1;team 1;team 1;team 1;team 1;team 1;week;"));
        for (int week = 0; week < 39; week++) {
            x.endWeek();
        }
        Check.same("week 40", 0, run(x, "week;"));
    }

    private static void oneStateForARun() {
        FreezeCredits x = new FreezeCredits();
        x.addTeam(1);
        run(x, "team 2;team 3;week;team 4;week;");
        Check.same("teams", 4, x.whole(0));
        Check.same("states on the stack", 1, x.undo());
        Check.same("teams", 1, x.whole(0));
        Check.same("week", 0, x.whole(8));
        Check.same("the text stays", 31, x.whole(17));
        Check.same("run of an empty text", 0, run(x, ""));
        Check.same("saves a state", 1, x.undo());
    }

    private static void theTextStays() {
        FreezeCredits x = new FreezeCredits();
        write(x, "week;");
        Check.same("run", 1, x.runCommands());
        Check.same("length", 5, x.whole(17));
        write(x, "team 1;");
        Check.same("run again with more", 2, x.runCommands());
        Check.same("week", 2, x.whole(8));
        x.undo();
        Check.same("undo leaves the text", 12, x.whole(17));
        Check.same("run again", 2, x.runCommands());
    }

    private static void nothingOfOlderTexts() {
        FreezeCredits x = new FreezeCredits();
        Check.same("run", 1, run(x, "team 5;"));
        Check.same("a semicolon of the older text does not stand", -10 - 6, run(x, "team 5"));
        Check.same("a fault before the older place", -10, run(x, "wek;"));
        run(x, "teamx");
        Check.same("a letter of the older text does not stand", -10 - 4, run(x, "team"));
        Check.same("teams", 1, x.whole(0));
    }

    private static void fullText() {
        FreezeCredits x = new FreezeCredits();
        StringBuilder text = new StringBuilder();
        for (int command = 0; command < 30; command++) {
            text.append("week;");
        }
        Check.same("30 commands", 30, run(x, text.toString()));
        Check.same("week", 30, x.whole(8));
        Check.same("up to the last week", 9, x.runCommands());
    }
}
