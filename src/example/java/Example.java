/** A team's way through a freeze; README.md shows this file and what it prints. */
public final class Example {
    public static void main(String[] args) {
        FreezeCredits calendar = new FreezeCredits();
        int team = calendar.addTeam(20);
        print("frozen weeks", calendar.freeze(0, 3, true));

        int small = calendar.ask(team, 4);
        print("held for the small change", calendar.exempt(small));
        print("burnt by it", calendar.make(small, false));

        type(calendar, "ask 0 9; exempt 1; week;");
        print("commands carried out", calendar.runCommands());
        print("why the large change cannot become exempt", calendar.reason(1));
        int weeks = calendar.weeksUntil(team, 9);
        print("weeks to wait for it", weeks);
        try {
            calendar.exempt(1);
        } catch (IllegalStateException e) {
            print("free credits after a refused call", calendar.team(team, 0));
        }

        for (int i = 0; i < weeks; i++) {
            print("earned by a week", calendar.endWeek());
        }
        print("held for the large change", calendar.exempt(1));
        print("burnt by it", calendar.make(1, true));
        print("states left to undo", calendar.undo());
        print("credits held again", calendar.team(team, 1));
    }

    private static void type(FreezeCredits calendar, String commands) {
        for (int i = 0; i < commands.length(); i++) {
            calendar.type(commands.charAt(i));
        }
    }

    private static void print(String what, int value) {
        System.out.println(what + ": " + value);
    }
}
