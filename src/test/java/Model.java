import java.util.ArrayDeque;
import java.util.ArrayList;
import java.util.Comparator;
import java.util.Deque;
import java.util.List;
import java.util.Set;
import java.util.regex.Matcher;
import java.util.regex.Pattern;

/**
 * The document told a second time, in other means: lists, streams, copies of
 * the whole and regular expressions. An exception is answered as a number.
 */
final class Model {
    static final long INDEX = -1001;
    static final long ARGUMENT = -1002;
    static final long STATE = -1003;

    private static final Set<String> WORDS = Set.of("team", "freeze", "thaw", "ask", "exempt", "done", "fault",
            "drop", "lend", "repay", "set", "week");
    private static final Pattern TEXT = Pattern.compile(
            "( *(week|(team|exempt|done|fault|drop) +\\d{1,3}|(freeze|thaw|ask|repay|set)( +\\d{1,3}){2}"
            + "|lend( +\\d{1,3}){4}) *;)* *");

    private static final class Team {
        int brought;
        int free;
        int earned;
        int burnt;
    }

    private static final class Change {
        int number;
        int team;
        int risk;
        int state;
        int held;
        int asked;
        int made = -1;
        boolean wasExempt;
    }

    private static final class Loan {
        int number;
        int from;
        int to;
        int amount;
        int paid;
        int due;
        int made;

        int left() {
            return amount - paid;
        }
    }

    private List<Team> teams = new ArrayList<>();
    private List<Change> changes = new ArrayList<>();
    private List<Loan> loans = new ArrayList<>();
    private boolean[] frozen = new boolean[40];
    private int[] settings = {3, 4, 2, 100};
    private int week = 0;
    private StringBuilder text = new StringBuilder();
    private Deque<Model> saved = new ArrayDeque<>();
    private boolean inRun = false;

    private Model copy() {
        Model m = new Model();
        for (Team t : teams) {
            Team c = new Team();
            c.brought = t.brought;
            c.free = t.free;
            c.earned = t.earned;
            c.burnt = t.burnt;
            m.teams.add(c);
        }
        for (Change h : changes) {
            Change c = new Change();
            c.number = h.number;
            c.team = h.team;
            c.risk = h.risk;
            c.state = h.state;
            c.held = h.held;
            c.asked = h.asked;
            c.made = h.made;
            c.wasExempt = h.wasExempt;
            m.changes.add(c);
        }
        for (Loan l : loans) {
            Loan c = new Loan();
            c.number = l.number;
            c.from = l.from;
            c.to = l.to;
            c.amount = l.amount;
            c.paid = l.paid;
            c.due = l.due;
            c.made = l.made;
            m.loans.add(c);
        }
        m.frozen = frozen.clone();
        m.settings = settings.clone();
        m.week = week;
        return m;
    }

    private void save() {
        if (inRun) {
            return;
        }
        saved.push(copy());
        while (saved.size() > 4) {
            saved.removeLast();
        }
    }

    private boolean noTeam(int team) {
        return team < 0 || team >= teams.size();
    }

    private boolean noChange(int change) {
        return change < 0 || change >= changes.size();
    }

    private boolean owes(int team) {
        return loans.stream().anyMatch(l -> l.to == team && l.left() > 0 && l.due < week);
    }

    private List<Change> queue() {
        return changes.stream().filter(c -> c.state <= 1)
                .sorted(Comparator.comparingInt((Change c) -> c.risk).thenComparingInt(c -> c.number)).toList();
    }

    long addTeam(int credits) {
        if (credits < 0 || credits > 999) {
            return ARGUMENT;
        }
        if (teams.size() == 6) {
            return STATE;
        }
        save();
        Team t = new Team();
        t.brought = credits;
        t.free = credits;
        teams.add(t);
        return teams.size() - 1;
    }

    long freeze(int from, int to, boolean on) {
        if (from < 0 || from > 39 || to < from || to > 39) {
            return ARGUMENT;
        }
        if (from < week) {
            return STATE;
        }
        save();
        int count = 0;
        for (int w = 0; w < 40; w++) {
            frozen[w] = w >= from && w <= to ? on : frozen[w];
            count += frozen[w] ? 1 : 0;
        }
        return count;
    }

    long set(int what, int value) {
        boolean good = switch (what) {
            case 0 -> value >= 1 && value <= 20;
            case 1, 2 -> value >= 0 && value <= 50;
            case 3 -> value >= 1 && value <= 2000;
            default -> false;
        };
        if (!good) {
            return ARGUMENT;
        }
        save();
        int old = settings[what];
        settings[what] = value;
        return old;
    }

    long endWeek() {
        if (week == 39) {
            return STATE;
        }
        save();
        int all = 0;
        for (int i = 0; i < teams.size(); i++) {
            int team = i;
            Team t = teams.get(i);
            boolean fault = changes.stream().anyMatch(c -> c.team == team && c.state == 3 && c.made == week);
            for (int credit = 0; credit < settings[1] && !fault && t.free < settings[3]; credit++) {
                t.free++;
                t.earned++;
                all++;
            }
        }
        loans.stream().filter(l -> l.left() > 0 && l.due <= week)
                .sorted(Comparator.comparingInt((Loan l) -> l.due).thenComparingInt(l -> l.number))
                .forEachOrdered(l -> pay(l, Math.min(l.left(), teams.get(l.to).free)));
        week++;
        return all;
    }

    private void pay(Loan l, int credits) {
        l.paid += credits;
        teams.get(l.to).free -= credits;
        teams.get(l.from).free += credits;
    }

    long ask(int team, int risk) {
        if (noTeam(team)) {
            return INDEX;
        }
        if (risk < 1 || risk > 9) {
            return ARGUMENT;
        }
        if (changes.size() == 30) {
            return STATE;
        }
        save();
        Change c = new Change();
        c.number = changes.size();
        c.team = team;
        c.risk = risk;
        c.asked = week;
        changes.add(c);
        return c.number;
    }

    long reason(int change) {
        if (noChange(change)) {
            return INDEX;
        }
        Change c = changes.get(change);
        if (c.state != 0) {
            return 1;
        }
        return owes(c.team) ? 2 : teams.get(c.team).free < c.risk * settings[0] ? 3 : 0;
    }

    long exempt(int change) {
        long why = reason(change);
        if (why != 0) {
            return why == INDEX ? INDEX : STATE;
        }
        save();
        Change c = changes.get(change);
        c.state = 1;
        c.held = c.risk * settings[0];
        teams.get(c.team).free -= c.held;
        return c.held;
    }

    long make(int change, boolean fault) {
        if (noChange(change)) {
            return INDEX;
        }
        Change c = changes.get(change);
        if (c.state > 1 || (c.state == 0 && frozen[week])) {
            return STATE;
        }
        save();
        Team t = teams.get(c.team);
        int burnt = fault ? c.held + Math.min(t.free, settings[2] * c.risk) : 0;
        t.free += c.held - burnt;
        t.burnt += burnt;
        c.wasExempt = c.state == 1;
        c.held = 0;
        c.made = week;
        c.state = fault ? 3 : 2;
        return burnt;
    }

    long giveUp(int change) {
        if (noChange(change)) {
            return INDEX;
        }
        Change c = changes.get(change);
        if (c.state > 1) {
            return STATE;
        }
        save();
        int held = c.held;
        teams.get(c.team).free += held;
        c.held = 0;
        c.state = 4;
        return held;
    }

    long lend(int from, int to, int amount, int due) {
        if (noTeam(from) || noTeam(to)) {
            return INDEX;
        }
        if (from == to || amount < 1 || amount > 500 || due < 0 || due > 39) {
            return ARGUMENT;
        }
        if (due < week || loans.size() == 12 || teams.get(from).free < amount || owes(to)) {
            return STATE;
        }
        save();
        Loan l = new Loan();
        l.number = loans.size();
        l.from = from;
        l.to = to;
        l.amount = amount;
        l.due = due;
        l.made = week;
        loans.add(l);
        teams.get(from).free -= amount;
        teams.get(to).free += amount;
        return l.number;
    }

    long repay(int loan, int amount) {
        if (loan < 0 || loan >= loans.size()) {
            return INDEX;
        }
        if (amount < 1 || amount > 500) {
            return ARGUMENT;
        }
        Loan l = loans.get(loan);
        if (l.left() < amount || teams.get(l.to).free < amount) {
            return STATE;
        }
        save();
        pay(l, amount);
        return l.left();
    }

    long team(int team, int what) {
        if (noTeam(team)) {
            return INDEX;
        }
        if (what < 0 || what > 10) {
            return ARGUMENT;
        }
        Team t = teams.get(team);
        List<Change> own = changes.stream().filter(c -> c.team == team).toList();
        return switch (what) {
            case 0 -> t.free;
            case 1 -> own.stream().filter(c -> c.state == 1).mapToInt(c -> c.held).sum();
            case 2 -> t.earned;
            case 3 -> t.burnt;
            case 4 -> own.stream().filter(c -> c.state < 2).count();
            case 5 -> own.stream().filter(c -> c.state == 2).count();
            case 6 -> own.stream().filter(c -> c.state == 3).count();
            case 7 -> loans.stream().filter(l -> l.from == team).mapToInt(Loan::left).sum();
            case 8 -> loans.stream().filter(l -> l.to == team).mapToInt(Loan::left).sum();
            case 9 -> owes(team) ? 1 : 0;
            default -> own.stream().anyMatch(c -> c.state == 3 && c.made == week) ? 1 : 0;
        };
    }

    long change(int change, int what) {
        if (noChange(change)) {
            return INDEX;
        }
        if (what < 0 || what > 6) {
            return ARGUMENT;
        }
        Change c = changes.get(change);
        return new int[] {c.team, c.risk, c.state, c.held, c.asked, c.made, c.wasExempt ? 1 : 0}[what];
    }

    long loan(int loan, int what) {
        if (loan < 0 || loan >= loans.size()) {
            return INDEX;
        }
        if (what < 0 || what > 5) {
            return ARGUMENT;
        }
        Loan l = loans.get(loan);
        return new int[] {l.from, l.to, l.amount, l.left(), l.due, l.made}[what];
    }

    long waiting(int index) {
        if (index < 0) {
            return ARGUMENT;
        }
        List<Change> queue = queue();
        return index < queue.size() ? queue.get(index).number : -1;
    }

    long frozen(int at) {
        return at < 0 || at > 39 ? ARGUMENT : frozen[at] ? 1 : 0;
    }

    private long sumOfTeams(int what) {
        long sum = 0;
        for (int team = 0; team < teams.size(); team++) {
            sum += team(team, what);
        }
        return sum;
    }

    long whole(int what) {
        if (what < 0 || what > 17) {
            return ARGUMENT;
        }
        if (what == 9) {
            int count = 0;
            for (int w = 39; w >= week; w--) {
                count += frozen[w] ? 1 : 0;
            }
            return count;
        }
        return switch (what) {
            case 0 -> teams.size();
            case 1 -> changes.size();
            case 2 -> loans.size();
            case 3 -> loans.stream().filter(l -> l.left() > 0).count();
            case 4, 5, 6, 7 -> settings[what - 4];
            case 8 -> week;
            case 10 -> sumOfTeams(0);
            case 11 -> sumOfTeams(1);
            case 12 -> teams.stream().mapToInt(t -> t.brought).sum();
            case 13 -> sumOfTeams(2);
            case 14 -> sumOfTeams(3);
            case 15 -> changes.stream().filter(c -> c.state == 1).count();
            case 16 -> sumOfTeams(9);
            default -> text.length();
        };
    }

    /** Tries it out: makes the changes exempt in a copy, until one throws. */
    long exemptible(int team) {
        if (noTeam(team)) {
            return INDEX;
        }
        Model trial = copy();
        int count = 0;
        for (Change c : queue()) {
            if (c.team == team && c.state == 0) {
                if (trial.exempt(c.number) < 0) {
                    break;
                }
                count++;
            }
        }
        return count;
    }

    long weeksUntil(int team, int risk) {
        if (noTeam(team)) {
            return INDEX;
        }
        if (risk < 1 || risk > 9) {
            return ARGUMENT;
        }
        Model trial = copy();
        int ends = 0;
        while (trial.teams.get(team).free < risk * settings[0]) {
            if (trial.endWeek() < 0) {
                return -1;
            }
            ends++;
        }
        return ends;
    }

    long lender(int team, int risk) {
        if (noTeam(team)) {
            return INDEX;
        }
        if (risk < 1 || risk > 9) {
            return ARGUMENT;
        }
        int lack = risk * settings[0] - teams.get(team).free;
        if (lack <= 0 || owes(team)) {
            return -1;
        }
        long best = -1;
        int most = lack - 1;
        for (int other = 0; other < teams.size(); other++) {
            if (other != team && teams.get(other).free > most) {
                best = other;
                most = teams.get(other).free;
            }
        }
        return best;
    }

    long nextThaw() {
        int at = week;
        while (at < 40 && frozen[at]) {
            at++;
        }
        return at < 40 ? at : -1;
    }

    long inBeing(int weeks) {
        if (weeks < 0 || weeks > 39) {
            return ARGUMENT;
        }
        Model trial = copy();
        for (int i = 0; i < weeks; i++) {
            if (trial.endWeek() < 0) {
                return -1;
            }
        }
        return trial.whole(12) + trial.whole(13) - trial.whole(14);
    }

    long type(int value) {
        if (value < 0 || value > 127) {
            return ARGUMENT;
        }
        if (text.length() == 150) {
            return STATE;
        }
        text.append((char) value);
        return text.length();
    }

    long clearCommands() {
        int length = text.length();
        text = new StringBuilder();
        return length;
    }

    /** The first byte behind which no text can be right, or the word that it spoils. */
    static int faultOf(String text) {
        if (TEXT.matcher(text).matches()) {
            return -1;
        }
        int at = 0;
        while (at < text.length() && canGoOn(text.substring(0, at + 1))) {
            at++;
        }
        int start = at;
        int end = at;
        while (start > 0 && isLetter(text.charAt(start - 1))) {
            start--;
        }
        while (end < text.length() && isLetter(text.charAt(end))) {
            end++;
        }
        boolean known = start == end || WORDS.contains(text.substring(start, end));
        return known ? at : start;
    }

    private static boolean isLetter(char c) {
        return c >= 'a' && c <= 'z';
    }

    private static boolean canGoOn(String start) {
        Matcher m = TEXT.matcher(start);
        return m.matches() || m.hitEnd();
    }

    long runCommands() {
        int fault = faultOf(text.toString());
        if (fault >= 0) {
            return -10 - fault;
        }
        save();
        inRun = true;
        int count = 0;
        for (String command : text.toString().split(";")) {
            String[] parts = command.trim().split(" +");
            if (parts[0].isEmpty() || carryOut(parts) < 0) {
                break;
            }
            count++;
        }
        inRun = false;
        return count;
    }

    private long carryOut(String[] parts) {
        int[] n = new int[4];
        for (int i = 1; i < parts.length; i++) {
            n[i - 1] = Integer.parseInt(parts[i]);
        }
        return switch (parts[0]) {
            case "team" -> addTeam(n[0]);
            case "freeze" -> freeze(n[0], n[1], true);
            case "thaw" -> freeze(n[0], n[1], false);
            case "ask" -> ask(n[0], n[1]);
            case "exempt" -> exempt(n[0]);
            case "done" -> make(n[0], false);
            case "fault" -> make(n[0], true);
            case "drop" -> giveUp(n[0]);
            case "lend" -> lend(n[0], n[1], n[2], n[3]);
            case "repay" -> repay(n[0], n[1]);
            case "set" -> set(n[0], n[1]);
            case "week" -> endWeek();
            default -> throw new AssertionError(parts[0]);
        };
    }

    long undo() {
        if (saved.isEmpty()) {
            return STATE;
        }
        Model m = saved.pop();
        teams = m.teams;
        changes = m.changes;
        loans = m.loans;
        frozen = m.frozen;
        settings = m.settings;
        week = m.week;
        return saved.size();
    }

    long digest() {
        long h = 31L * 43672 + saved.size();
        for (int what = 0; what <= 17; what++) {
            h = 31 * h + whole(what);
        }
        for (int w = 0; w < 40; w++) {
            h = 31 * h + frozen(w);
        }
        for (int team = 0; team < teams.size(); team++) {
            for (int what = 0; what <= 10; what++) {
                h = 31 * h + team(team, what);
            }
            h = 31 * h + exemptible(team);
        }
        for (int change = 0; change < changes.size(); change++) {
            for (int what = 0; what <= 6; what++) {
                h = 31 * h + change(change, what);
            }
        }
        for (Change c : queue()) {
            h = 31 * h + c.number;
        }
        for (int loan = 0; loan < loans.size(); loan++) {
            for (int what = 0; what <= 5; what++) {
                h = 31 * h + loan(loan, what);
            }
        }
        return 31 * h + nextThaw();
    }
}
