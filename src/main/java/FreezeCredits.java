/**
 * A change freeze with exemptions: teams, weeks, credits, loans, a queue of
 * changes and texts of commands. What each call must do is said, promise by
 * promise, in DOC.md; README.md tells how the class is built.
 */
public final class FreezeCredits {
    public static final int NONE = -1;

    private static final int MOST_TEAMS = 6;
    private static final int MOST_CHANGES = 30;
    private static final int MOST_LOANS = 12;
    private static final int WEEKS = 40;
    private static final int LAST_WEEK = WEEKS - 1;
    private static final int MOST_BROUGHT_IN = 999;
    private static final int MOST_RISK = 9;
    private static final int MOST_LENT = 500;
    private static final int TEXT_BYTES = 150;
    private static final int MOST_NUMBERS = 4;
    private static final int MOST_DIGITS = 3;
    private static final int UNDO_STATES = 4;

    private static final int PRICE = 0;
    private static final int EARNING = 1;
    private static final int FINE = 2;
    private static final int MOST = 3;
    private static final int SETTINGS = 4;
    private static final int[] SETTINGS_AT_FIRST = {3, 4, 2, 100};
    private static final int[] SETTINGS_FROM = {1, 0, 0, 1};
    private static final int[] SETTINGS_TO = {20, 50, 50, 2000};

    private static final int ASKED_FOR = 0;
    private static final int EXEMPT = 1;
    private static final int DONE = 2;
    private static final int FAULTY = 3;
    private static final int GIVEN_UP = 4;

    private static final int TEAM_VALUES = 11;
    private static final int CHANGE_VALUES = 7;
    private static final int LOAN_VALUES = 6;
    private static final int WHOLE_VALUES = 18;
    private static final int TEXT_LENGTH = 17;

    // No undoable call answers a negative number, so that a refusal can stand
    // in the place of an answer: a run of commands must not throw.
    private static final int NO_SUCH = -1;
    private static final int OUT_OF_RANGE = -2;
    private static final int NOT_ALLOWED = -3;

    private static final int NO_FAULT = -1;
    private static final int FAULT_BASE = -10;
    private static final int END_OF_TEXT = -1;

    private static final long DIGEST_START = 43672;

    private final Calendar now = new Calendar();
    private final Calendar trial = new Calendar();
    private final History history = new History();
    private final CommandText text = new CommandText();

    public FreezeCredits() {
    }

    // ---- teams and weeks

    public int addTeam(int credits) throws IllegalArgumentException, IllegalStateException {
        history.prepare(now);
        return settle(now.bringTeam(credits));
    }

    public int freeze(int from, int to, boolean frozen)
            throws IllegalArgumentException, IllegalStateException {
        history.prepare(now);
        return settle(now.markWeeks(from, to, frozen));
    }

    public int set(int what, int value) throws IllegalArgumentException {
        history.prepare(now);
        return settle(now.changeSetting(what, value));
    }

    public int endWeek() throws IllegalStateException {
        history.prepare(now);
        return settle(now.closeWeek());
    }

    // ---- changes

    public int ask(int team, int risk)
            throws IndexOutOfBoundsException, IllegalArgumentException, IllegalStateException {
        history.prepare(now);
        return settle(now.enterChange(team, risk));
    }

    public int exempt(int change) throws IndexOutOfBoundsException, IllegalStateException {
        history.prepare(now);
        return settle(now.exemptChange(change));
    }

    public int make(int change, boolean fault)
            throws IndexOutOfBoundsException, IllegalStateException {
        history.prepare(now);
        return settle(now.makeChange(change, fault));
    }

    public int giveUp(int change) throws IndexOutOfBoundsException, IllegalStateException {
        history.prepare(now);
        return settle(now.dropChange(change));
    }

    // ---- loans

    public int lend(int from, int to, int amount, int due)
            throws IndexOutOfBoundsException, IllegalArgumentException, IllegalStateException {
        history.prepare(now);
        return settle(now.lendCredits(from, to, amount, due));
    }

    public int repay(int loan, int amount)
            throws IndexOutOfBoundsException, IllegalArgumentException, IllegalStateException {
        history.prepare(now);
        return settle(now.repayLoan(loan, amount));
    }

    // ---- values

    public int team(int team, int what)
            throws IndexOutOfBoundsException, IllegalArgumentException {
        needTeam(team);
        needValue(what, TEAM_VALUES);
        return now.teamValue(team, what);
    }

    public int change(int change, int what)
            throws IndexOutOfBoundsException, IllegalArgumentException {
        needChange(change);
        needValue(what, CHANGE_VALUES);
        return now.changes.value(change, what);
    }

    public int loan(int loan, int what)
            throws IndexOutOfBoundsException, IllegalArgumentException {
        if (!now.loans.has(loan)) {
            throw new IndexOutOfBoundsException("there is no such loan");
        }
        needValue(what, LOAN_VALUES);
        return now.loans.value(loan, what);
    }

    public int waiting(int index) throws IllegalArgumentException {
        if (index < 0) {
            throw new IllegalArgumentException("the index is negative");
        }
        return index < now.changes.queued ? now.changes.queue[index] : NONE;
    }

    public int frozen(int week) throws IllegalArgumentException {
        if (week < 0 || week > LAST_WEEK) {
            throw new IllegalArgumentException("the week is out of range");
        }
        return asNumber(now.frozenWeeks[week]);
    }

    public int whole(int what) throws IllegalArgumentException {
        needValue(what, WHOLE_VALUES);
        return wholeValue(what);
    }

    // ---- what if, which changes nothing

    public int reason(int change) throws IndexOutOfBoundsException {
        needChange(change);
        return now.reasonAgainst(change);
    }

    public int exemptible(int team) throws IndexOutOfBoundsException {
        needTeam(team);
        return now.countExemptible(team);
    }

    public int weeksUntil(int team, int risk)
            throws IndexOutOfBoundsException, IllegalArgumentException {
        needTeam(team);
        needRisk(risk);
        int credits = now.creditsOf(risk);
        int weeksLeft = LAST_WEEK - now.week;
        trial.copyFrom(now);
        for (int ends = 0; ends <= weeksLeft; ends++) {
            if (trial.teams.free[team] >= credits) {
                return ends;
            }
            trial.closeWeek();
        }
        return NONE;
    }

    public int lender(int team, int risk)
            throws IndexOutOfBoundsException, IllegalArgumentException {
        needTeam(team);
        needRisk(risk);
        int lack = now.creditsOf(risk) - now.teams.free[team];
        if (lack <= 0 || now.owes(team)) {
            return NONE;
        }
        return now.teams.richestOther(team, lack);
    }

    public int nextThaw() {
        return now.firstThaw();
    }

    public int inBeing(int weeks) throws IllegalArgumentException {
        if (weeks < 0 || weeks > LAST_WEEK) {
            throw new IllegalArgumentException("the number of weeks is out of range");
        }
        if (now.week + weeks > LAST_WEEK) {
            return NONE;
        }
        trial.copyFrom(now);
        for (int ends = 0; ends < weeks; ends++) {
            trial.closeWeek();
        }
        return trial.wholeFree() + trial.wholeHeld();
    }

    // ---- command text, undo and checksum

    public int type(int value) throws IllegalArgumentException, IllegalStateException {
        if (value < 0 || value > 127) {
            throw new IllegalArgumentException("the byte is out of range");
        }
        if (text.length >= TEXT_BYTES) {
            throw new IllegalStateException("the command text is full");
        }
        return text.append(value);
    }

    public int clearCommands() {
        int length = text.length;
        text.length = 0;
        return length;
    }

    public int runCommands() {
        int fault = text.findFault();
        if (fault != NO_FAULT) {
            return FAULT_BASE - fault;
        }
        history.prepare(now);
        int carriedOut = carryOutText();
        history.keep();
        return carriedOut;
    }

    public int undo() throws IllegalStateException {
        if (history.count <= 0) {
            throw new IllegalStateException("the undo stack is empty");
        }
        return history.restore(now);
    }

    public long digest() {
        long hash = mix(DIGEST_START, history.count);
        for (int what = 0; what < WHOLE_VALUES; what++) {
            hash = mix(hash, wholeValue(what));
        }
        for (int week = 0; week < WEEKS; week++) {
            hash = mix(hash, asNumber(now.frozenWeeks[week]));
        }
        hash = mixTeams(hash);
        hash = mixChanges(hash);
        hash = mixLoans(hash);
        return mix(hash, now.firstThaw());
    }

    // ---- what the calls share

    /** Ends an undoable call: throws what a refusal asks for, or keeps the state from before. */
    private int settle(int answer) {
        if (answer == NO_SUCH) {
            throw new IndexOutOfBoundsException("there is no such team, change or loan");
        }
        if (answer == OUT_OF_RANGE) {
            throw new IllegalArgumentException("a value is out of range");
        }
        if (answer == NOT_ALLOWED) {
            throw new IllegalStateException("the state does not allow this");
        }
        history.keep();
        return answer;
    }

    private void needTeam(int team) {
        if (!now.teams.has(team)) {
            throw new IndexOutOfBoundsException("there is no such team");
        }
    }

    private void needChange(int change) {
        if (!now.changes.has(change)) {
            throw new IndexOutOfBoundsException("there is no such change");
        }
    }

    private void needRisk(int risk) {
        if (!isRisk(risk)) {
            throw new IllegalArgumentException("the risk is out of range");
        }
    }

    private void needValue(int what, int values) {
        if (what < 0 || what >= values) {
            throw new IllegalArgumentException("there is no such value");
        }
    }

    private static boolean isRisk(int risk) {
        return risk >= 1 && risk <= MOST_RISK;
    }

    private static int asNumber(boolean yes) {
        return yes ? 1 : 0;
    }

    private static int sum(int[] row, int count) {
        int sum = 0;
        for (int i = 0; i < count; i++) {
            sum += row[i];
        }
        return sum;
    }

    private int wholeValue(int what) {
        return what == TEXT_LENGTH ? text.length : now.valueOfAll(what);
    }

    private int carryOutText() {
        int carriedOut = 0;
        text.rewind();
        for (int read = 0; read < TEXT_BYTES && text.hasMore(); read++) {
            if (text.readCommand() != NO_FAULT || carryOut(text.verb, text.numbers) < 0) {
                return carriedOut;
            }
            carriedOut++;
        }
        return carriedOut;
    }

    private int carryOut(Verb verb, int[] numbers) {
        if (verb == null) {
            return NOT_ALLOWED;
        }
        switch (verb) {
            case TEAM: return now.bringTeam(numbers[0]);
            case FREEZE: return now.markWeeks(numbers[0], numbers[1], true);
            case THAW: return now.markWeeks(numbers[0], numbers[1], false);
            case ASK: return now.enterChange(numbers[0], numbers[1]);
            case EXEMPT: return now.exemptChange(numbers[0]);
            case DONE: return now.makeChange(numbers[0], false);
            case FAULT: return now.makeChange(numbers[0], true);
            case DROP: return now.dropChange(numbers[0]);
            case LEND: return now.lendCredits(numbers[0], numbers[1], numbers[2], numbers[3]);
            case REPAY: return now.repayLoan(numbers[0], numbers[1]);
            case SET: return now.changeSetting(numbers[0], numbers[1]);
            default: return now.closeWeek();
        }
    }

    private static long mix(long hash, int value) {
        return 31 * hash + value;
    }

    private long mixTeams(long start) {
        long hash = start;
        for (int team = 0; team < now.teams.count; team++) {
            for (int what = 0; what < TEAM_VALUES; what++) {
                hash = mix(hash, now.teamValue(team, what));
            }
            hash = mix(hash, now.countExemptible(team));
        }
        return hash;
    }

    private long mixChanges(long start) {
        long hash = start;
        for (int change = 0; change < now.changes.count; change++) {
            for (int what = 0; what < CHANGE_VALUES; what++) {
                hash = mix(hash, now.changes.value(change, what));
            }
        }
        for (int index = 0; index < now.changes.queued; index++) {
            hash = mix(hash, now.changes.queue[index]);
        }
        return hash;
    }

    private long mixLoans(long start) {
        long hash = start;
        for (int loan = 0; loan < now.loans.count; loan++) {
            for (int what = 0; what < LOAN_VALUES; what++) {
                hash = mix(hash, now.loans.value(loan, what));
            }
        }
        return hash;
    }

    private static final class Teams {
        int count;
        final int[] free = new int[MOST_TEAMS];
        final int[] broughtIn = new int[MOST_TEAMS];
        final int[] earned = new int[MOST_TEAMS];
        final int[] burnt = new int[MOST_TEAMS];

        void copyFrom(Teams other) {
            count = other.count;
            System.arraycopy(other.free, 0, free, 0, MOST_TEAMS);
            System.arraycopy(other.broughtIn, 0, broughtIn, 0, MOST_TEAMS);
            System.arraycopy(other.earned, 0, earned, 0, MOST_TEAMS);
            System.arraycopy(other.burnt, 0, burnt, 0, MOST_TEAMS);
        }

        boolean has(int team) {
            return team >= 0 && team < count;
        }

        int append(int credits) {
            int team = count;
            free[team] = credits;
            broughtIn[team] = credits;
            earned[team] = 0;
            burnt[team] = 0;
            count++;
            return team;
        }

        int earn(int team, int earning, int most) {
            int credits = Math.max(0, Math.min(earning, most - free[team]));
            free[team] += credits;
            earned[team] += credits;
            return credits;
        }

        int richestOther(int team, int enough) {
            int richest = NONE;
            for (int other = 0; other < count; other++) {
                if (other != team && free[other] >= enough
                        && (richest < 0 || free[other] > free[richest])) {
                    richest = other;
                }
            }
            return richest;
        }
    }

    private static final class Changes {
        int count;
        final int[] team = new int[MOST_CHANGES];
        final int[] risk = new int[MOST_CHANGES];
        final int[] state = new int[MOST_CHANGES];
        final int[] held = new int[MOST_CHANGES];
        final int[] askedIn = new int[MOST_CHANGES];
        final int[] madeIn = new int[MOST_CHANGES];
        final int[] madeExempt = new int[MOST_CHANGES];

        // The changes that are asked for or exempt, in the order of changes.
        int queued;
        final int[] queue = new int[MOST_CHANGES];

        void copyFrom(Changes other) {
            count = other.count;
            queued = other.queued;
            System.arraycopy(other.team, 0, team, 0, MOST_CHANGES);
            System.arraycopy(other.risk, 0, risk, 0, MOST_CHANGES);
            System.arraycopy(other.state, 0, state, 0, MOST_CHANGES);
            System.arraycopy(other.held, 0, held, 0, MOST_CHANGES);
            System.arraycopy(other.askedIn, 0, askedIn, 0, MOST_CHANGES);
            System.arraycopy(other.madeIn, 0, madeIn, 0, MOST_CHANGES);
            System.arraycopy(other.madeExempt, 0, madeExempt, 0, MOST_CHANGES);
            System.arraycopy(other.queue, 0, queue, 0, MOST_CHANGES);
        }

        boolean has(int change) {
            return change >= 0 && change < count;
        }

        boolean isOpen(int change) {
            return state[change] == ASKED_FOR || state[change] == EXEMPT;
        }

        int append(int ofTeam, int ofRisk, int week) {
            int change = count;
            team[change] = ofTeam;
            risk[change] = ofRisk;
            state[change] = ASKED_FOR;
            held[change] = 0;
            askedIn[change] = week;
            madeIn[change] = NONE;
            madeExempt[change] = 0;
            count++;
            enqueue(change);
            return change;
        }

        // A new change has the highest number, so that it stands behind all of its risk.
        private void enqueue(int change) {
            int place = queued;
            while (place > 0 && risk[queue[place - 1]] > risk[change]) {
                queue[place] = queue[place - 1];
                place--;
            }
            queue[place] = change;
            queued++;
        }

        private void dequeue(int change) {
            int kept = 0;
            for (int index = 0; index < queued; index++) {
                if (queue[index] != change) {
                    queue[kept] = queue[index];
                    kept++;
                }
            }
            queued = kept;
        }

        /** Ends an open change and answers the credits that were held for it. */
        int close(int change, int endState) {
            int released = held[change];
            held[change] = 0;
            state[change] = endState;
            dequeue(change);
            return released;
        }

        int heldOf(int ofTeam) {
            int sum = 0;
            for (int change = 0; change < count; change++) {
                if (team[change] == ofTeam) {
                    sum += held[change];
                }
            }
            return sum;
        }

        int countOf(int ofTeam, int inState) {
            int found = 0;
            for (int change = 0; change < count; change++) {
                if (team[change] == ofTeam && state[change] == inState) {
                    found++;
                }
            }
            return found;
        }

        int countIn(int inState) {
            int found = 0;
            for (int change = 0; change < count; change++) {
                if (state[change] == inState) {
                    found++;
                }
            }
            return found;
        }

        boolean hasFault(int ofTeam, int week) {
            for (int change = 0; change < count; change++) {
                if (team[change] == ofTeam && state[change] == FAULTY && madeIn[change] == week) {
                    return true;
                }
            }
            return false;
        }

        int value(int change, int what) {
            switch (what) {
                case 0: return team[change];
                case 1: return risk[change];
                case 2: return state[change];
                case 3: return held[change];
                case 4: return askedIn[change];
                case 5: return madeIn[change];
                default: return madeExempt[change];
            }
        }
    }

    private static final class Loans {
        int count;
        final int[] giver = new int[MOST_LOANS];
        final int[] taker = new int[MOST_LOANS];
        final int[] amount = new int[MOST_LOANS];
        final int[] left = new int[MOST_LOANS];
        final int[] due = new int[MOST_LOANS];
        final int[] madeIn = new int[MOST_LOANS];

        void copyFrom(Loans other) {
            count = other.count;
            System.arraycopy(other.giver, 0, giver, 0, MOST_LOANS);
            System.arraycopy(other.taker, 0, taker, 0, MOST_LOANS);
            System.arraycopy(other.amount, 0, amount, 0, MOST_LOANS);
            System.arraycopy(other.left, 0, left, 0, MOST_LOANS);
            System.arraycopy(other.due, 0, due, 0, MOST_LOANS);
            System.arraycopy(other.madeIn, 0, madeIn, 0, MOST_LOANS);
        }

        boolean has(int loan) {
            return loan >= 0 && loan < count;
        }

        int append(int from, int to, int credits, int dueWeek, int week) {
            int loan = count;
            giver[loan] = from;
            taker[loan] = to;
            amount[loan] = credits;
            left[loan] = credits;
            due[loan] = dueWeek;
            madeIn[loan] = week;
            count++;
            return loan;
        }

        int countOpen() {
            int found = 0;
            for (int loan = 0; loan < count; loan++) {
                if (left[loan] > 0) {
                    found++;
                }
            }
            return found;
        }

        int leftFrom(int team) {
            int sum = 0;
            for (int loan = 0; loan < count; loan++) {
                if (giver[loan] == team) {
                    sum += left[loan];
                }
            }
            return sum;
        }

        int leftTo(int team) {
            int sum = 0;
            for (int loan = 0; loan < count; loan++) {
                if (taker[loan] == team) {
                    sum += left[loan];
                }
            }
            return sum;
        }

        boolean isOverdue(int team, int week) {
            for (int loan = 0; loan < count; loan++) {
                if (taker[loan] == team && left[loan] > 0 && due[loan] < week) {
                    return true;
                }
            }
            return false;
        }

        int value(int loan, int what) {
            switch (what) {
                case 0: return giver[loan];
                case 1: return taker[loan];
                case 2: return amount[loan];
                case 3: return left[loan];
                case 4: return due[loan];
                default: return madeIn[loan];
            }
        }
    }

    /** The whole state but the command text: what an undo brings back. */
    private static final class Calendar {
        int week;
        final int[] settings = SETTINGS_AT_FIRST.clone();
        final boolean[] frozenWeeks = new boolean[WEEKS];
        final Teams teams = new Teams();
        final Changes changes = new Changes();
        final Loans loans = new Loans();

        void copyFrom(Calendar other) {
            week = other.week;
            System.arraycopy(other.settings, 0, settings, 0, SETTINGS);
            // LANGUAGE.md may mean its array copies for arrays of numbers alone.
            for (int copied = 0; copied < WEEKS; copied++) {
                frozenWeeks[copied] = other.frozenWeeks[copied];
            }
            teams.copyFrom(other.teams);
            changes.copyFrom(other.changes);
            loans.copyFrom(other.loans);
        }

        int bringTeam(int credits) {
            if (credits < 0 || credits > MOST_BROUGHT_IN) {
                return OUT_OF_RANGE;
            }
            if (teams.count >= MOST_TEAMS) {
                return NOT_ALLOWED;
            }
            return teams.append(credits);
        }

        int markWeeks(int from, int to, boolean frozen) {
            if (from < 0 || to < from || to > LAST_WEEK) {
                return OUT_OF_RANGE;
            }
            if (from < week) {
                return NOT_ALLOWED;
            }
            for (int marked = from; marked <= to; marked++) {
                frozenWeeks[marked] = frozen;
            }
            return countFrozen(0);
        }

        int changeSetting(int what, int value) {
            if (what < 0 || what >= SETTINGS) {
                return OUT_OF_RANGE;
            }
            if (value < SETTINGS_FROM[what] || value > SETTINGS_TO[what]) {
                return OUT_OF_RANGE;
            }
            int previous = settings[what];
            settings[what] = value;
            return previous;
        }

        int closeWeek() {
            if (week >= LAST_WEEK) {
                return NOT_ALLOWED;
            }
            int earned = earnAll();
            collectDueLoans();
            week++;
            return earned;
        }

        private int earnAll() {
            int earned = 0;
            for (int team = 0; team < teams.count; team++) {
                if (!changes.hasFault(team, week)) {
                    earned += teams.earn(team, settings[EARNING], settings[MOST]);
                }
            }
            return earned;
        }

        private void collectDueLoans() {
            for (int due = 0; due <= week; due++) {
                for (int loan = 0; loan < loans.count; loan++) {
                    if (loans.due[loan] == due) {
                        payBack(loan, Math.min(loans.left[loan], freeOfTaker(loan)));
                    }
                }
            }
        }

        private int freeOfTaker(int loan) {
            return teams.free[loans.taker[loan]];
        }

        private void payBack(int loan, int credits) {
            loans.left[loan] -= credits;
            teams.free[loans.taker[loan]] -= credits;
            teams.free[loans.giver[loan]] += credits;
        }

        int enterChange(int team, int risk) {
            if (!teams.has(team)) {
                return NO_SUCH;
            }
            if (!isRisk(risk)) {
                return OUT_OF_RANGE;
            }
            if (changes.count >= MOST_CHANGES) {
                return NOT_ALLOWED;
            }
            return changes.append(team, risk, week);
        }

        int exemptChange(int change) {
            if (!changes.has(change)) {
                return NO_SUCH;
            }
            if (reasonAgainst(change) != 0) {
                return NOT_ALLOWED;
            }
            int credits = creditsOf(changes.risk[change]);
            teams.free[changes.team[change]] -= credits;
            changes.held[change] = credits;
            changes.state[change] = EXEMPT;
            return credits;
        }

        int makeChange(int change, boolean fault) {
            if (!changes.has(change)) {
                return NO_SUCH;
            }
            boolean exempt = changes.state[change] == EXEMPT;
            if (!changes.isOpen(change) || (!exempt && frozenWeeks[week])) {
                return NOT_ALLOWED;
            }
            changes.madeIn[change] = week;
            changes.madeExempt[change] = asNumber(exempt);
            int released = changes.close(change, fault ? FAULTY : DONE);
            int team = changes.team[change];
            if (!fault) {
                teams.free[team] += released;
                return 0;
            }
            int fine = Math.min(settings[FINE] * changes.risk[change], teams.free[team]);
            teams.free[team] -= fine;
            teams.burnt[team] += released + fine;
            return released + fine;
        }

        int dropChange(int change) {
            if (!changes.has(change)) {
                return NO_SUCH;
            }
            if (!changes.isOpen(change)) {
                return NOT_ALLOWED;
            }
            int released = changes.close(change, GIVEN_UP);
            teams.free[changes.team[change]] += released;
            return released;
        }

        int lendCredits(int from, int to, int amount, int due) {
            if (!teams.has(from) || !teams.has(to)) {
                return NO_SUCH;
            }
            if (from == to || amount < 1 || amount > MOST_LENT || due < 0 || due > LAST_WEEK) {
                return OUT_OF_RANGE;
            }
            if (due < week || loans.count >= MOST_LOANS || teams.free[from] < amount || owes(to)) {
                return NOT_ALLOWED;
            }
            teams.free[from] -= amount;
            teams.free[to] += amount;
            return loans.append(from, to, amount, due, week);
        }

        int repayLoan(int loan, int amount) {
            if (!loans.has(loan)) {
                return NO_SUCH;
            }
            if (amount < 1 || amount > MOST_LENT) {
                return OUT_OF_RANGE;
            }
            if (loans.left[loan] < amount || freeOfTaker(loan) < amount) {
                return NOT_ALLOWED;
            }
            payBack(loan, amount);
            return loans.left[loan];
        }

        int creditsOf(int risk) {
            return risk * settings[PRICE];
        }

        boolean owes(int team) {
            return loans.isOverdue(team, week);
        }

        int reasonAgainst(int change) {
            if (changes.state[change] != ASKED_FOR) {
                return 1;
            }
            int team = changes.team[change];
            if (owes(team)) {
                return 2;
            }
            return teams.free[team] < creditsOf(changes.risk[change]) ? 3 : 0;
        }

        int countExemptible(int team) {
            if (owes(team)) {
                return 0;
            }
            int found = 0;
            int free = teams.free[team];
            for (int index = 0; index < changes.queued; index++) {
                int change = changes.queue[index];
                if (changes.team[change] == team && changes.state[change] == ASKED_FOR) {
                    free -= creditsOf(changes.risk[change]);
                    if (free < 0) {
                        return found;
                    }
                    found++;
                }
            }
            return found;
        }

        int firstThaw() {
            for (int later = week; later < WEEKS; later++) {
                if (!frozenWeeks[later]) {
                    return later;
                }
            }
            return NONE;
        }

        int countFrozen(int from) {
            int found = 0;
            for (int later = from; later < WEEKS; later++) {
                found += asNumber(frozenWeeks[later]);
            }
            return found;
        }

        int countOwing() {
            int found = 0;
            for (int team = 0; team < teams.count; team++) {
                found += asNumber(owes(team));
            }
            return found;
        }

        int wholeFree() {
            return sum(teams.free, teams.count);
        }

        int wholeHeld() {
            return sum(changes.held, changes.count);
        }

        int teamValue(int team, int what) {
            switch (what) {
                case 0: return teams.free[team];
                case 1: return changes.heldOf(team);
                case 2: return teams.earned[team];
                case 3: return teams.burnt[team];
                case 4: return changes.countOf(team, ASKED_FOR) + changes.countOf(team, EXEMPT);
                case 5: return changes.countOf(team, DONE);
                case 6: return changes.countOf(team, FAULTY);
                case 7: return loans.leftFrom(team);
                case 8: return loans.leftTo(team);
                case 9: return asNumber(owes(team));
                default: return asNumber(changes.hasFault(team, week));
            }
        }

        int valueOfAll(int what) {
            switch (what) {
                case 0: return teams.count;
                case 1: return changes.count;
                case 2: return loans.count;
                case 3: return loans.countOpen();
                case 4: return settings[PRICE];
                case 5: return settings[EARNING];
                case 6: return settings[FINE];
                case 7: return settings[MOST];
                case 8: return week;
                case 9: return countFrozen(week);
                case 10: return wholeFree();
                case 11: return wholeHeld();
                case 12: return sum(teams.broughtIn, teams.count);
                case 13: return sum(teams.earned, teams.count);
                case 14: return sum(teams.burnt, teams.count);
                case 15: return changes.countIn(EXEMPT);
                default: return countOwing();
            }
        }
    }

    /** The undo stack; one slot above its top takes the state from before a call. */
    private static final class History {
        int count;
        private final Calendar[] slots = new Calendar[UNDO_STATES + 1];

        History() {
            for (int slot = 0; slot <= UNDO_STATES; slot++) {
                slots[slot] = new Calendar();
            }
        }

        /** Notes the state; it counts only when keep() follows, so that a refused call leaves no trace. */
        void prepare(Calendar calendar) {
            slots[count].copyFrom(calendar);
        }

        void keep() {
            if (count < UNDO_STATES) {
                count++;
                return;
            }
            Calendar oldest = slots[0];
            for (int slot = 0; slot < UNDO_STATES; slot++) {
                slots[slot] = slots[slot + 1];
            }
            slots[UNDO_STATES] = oldest;
        }

        int restore(Calendar calendar) {
            count--;
            calendar.copyFrom(slots[count]);
            return count;
        }
    }

    private enum Verb {
        TEAM("team", 1),
        FREEZE("freeze", 2),
        THAW("thaw", 2),
        ASK("ask", 2),
        EXEMPT("exempt", 1),
        DONE("done", 1),
        FAULT("fault", 1),
        DROP("drop", 1),
        LEND("lend", 4),
        REPAY("repay", 2),
        SET("set", 2),
        WEEK("week", 0);

        final String word;
        final int numbers;

        Verb(String word, int numbers) {
            this.word = word;
            this.numbers = numbers;
        }
    }

    /** The command text, and a place in it from which the next command is read. */
    private static final class CommandText {
        private static final Verb[] VERBS = Verb.values();

        int length;
        Verb verb;
        final int[] numbers = new int[MOST_NUMBERS];
        private final byte[] bytes = new byte[TEXT_BYTES];
        private int at;

        int append(int value) {
            bytes[length] = (byte) value;
            length++;
            return length;
        }

        void rewind() {
            at = 0;
        }

        boolean hasMore() {
            skipSpaces();
            return at < length;
        }

        int findFault() {
            rewind();
            for (int read = 0; read < TEXT_BYTES && hasMore(); read++) {
                int fault = readCommand();
                if (fault != NO_FAULT) {
                    return fault;
                }
            }
            return NO_FAULT;
        }

        /** Reads a command into verb and numbers; answers its fault or NO_FAULT. */
        int readCommand() {
            int start = at;
            skipLetters();
            verb = findVerb(start, at);
            if (verb == null) {
                return start;
            }
            for (int index = 0; index < verb.numbers; index++) {
                if (!readNumber(index)) {
                    return at;
                }
            }
            skipSpaces();
            if (next() != ';') {
                return at;
            }
            at++;
            return NO_FAULT;
        }

        // A fourth digit is left to what is read next, which refuses it at its place.
        private boolean readNumber(int index) {
            if (next() != ' ') {
                return false;
            }
            skipSpaces();
            if (!isDigit(next())) {
                return false;
            }
            int number = 0;
            for (int digit = 0; digit < MOST_DIGITS && isDigit(next()); digit++) {
                number = 10 * number + next() - '0';
                at++;
            }
            numbers[index] = number;
            return true;
        }

        private int next() {
            return at < length ? bytes[at] : END_OF_TEXT;
        }

        private void skipSpaces() {
            while (at < length && bytes[at] == ' ') {
                at++;
            }
        }

        private void skipLetters() {
            while (at < length && bytes[at] >= 'a' && bytes[at] <= 'z') {
                at++;
            }
        }

        private static boolean isDigit(int value) {
            return value >= '0' && value <= '9';
        }

        private Verb findVerb(int start, int end) {
            for (int index = 0; index < VERBS.length; index++) {
                if (stands(VERBS[index].word, start, end)) {
                    return VERBS[index];
                }
            }
            return null;
        }

        private boolean stands(String word, int start, int end) {
            if (word.length() != end - start) {
                return false;
            }
            for (int index = 0; index < word.length(); index++) {
                if (word.charAt(index) != bytes[start + index]) {
                    return false;
                }
            }
            return true;
        }
    }
}
