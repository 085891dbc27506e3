/** A desk for service contracts: cover, promises by gravity, cases with clocks, work and credits. */
public final class PromiseClocks {
    public static final int NONE = -1;
    public static final int ANSWER = 0, VISIT = 1, MEND = 2;
    public static final int OPEN = 0, JOINED = 1, CLOSED = 2;

    private static final int SITES = 4;
    private static final int KINDS = 4;
    private static final int GRAVITIES = 3;
    private static final int STAGES = 3;
    private static final int MOST_CONTRACTS = 8;
    private static final int MOST_CASES = 40;

    private static final int DAY_HOURS = 24;
    private static final int WEEK_DAYS = 7;
    private static final int LAST_DAY = 1000;
    private static final int LAST_TIME = 24000;

    private static final int CENTS_AHEAD = 7000;
    private static final int CENTS_WORK = 9000;
    private static final int CENTS_CREDIT = 2500;

    private final Site[] sites = new Site[SITES];
    private final int[] promises = {4, 8, 16, 2, 4, 8, 1, 2, 4};
    private final Case[] cases = new Case[MOST_CASES];
    private int caseCount = 0;
    private int now = 0;

    public PromiseClocks() {
        for (int site = 0; site < SITES; site++) {
            sites[site] = new Site();
        }
    }

    // ---- sites, contracts, promises

    public int setCalendar(int site, int days, int first, int last)
            throws IndexOutOfBoundsException, IllegalArgumentException {
        Site changed = siteAt(site);
        checkRange(days, 0, 127);
        checkRange(first, 0, DAY_HOURS - 1);
        checkRange(last, first, DAY_HOURS - 1);
        int before = changed.days;
        changed.days = days;
        changed.firstHour = first;
        changed.lastHour = last;
        return before;
    }

    public int addContract(int site, int kinds, int from, int to)
            throws IndexOutOfBoundsException, IllegalArgumentException, IllegalStateException {
        Site insured = siteAt(site);
        checkRange(kinds, 1, 15);
        checkRange(from, 0, LAST_DAY);
        checkRange(to, from, LAST_DAY);
        boolean kept = insured.keepContract(kinds, from, to);
        checkState(kept);
        return insured.contractCount;
    }

    public int setPromise(int gravity, int stage, int hours) throws IllegalArgumentException {
        checkRange(gravity, 0, GRAVITIES - 1);
        checkRange(stage, ANSWER, MEND);
        checkRange(hours, 1, 1000);
        int place = gravity * STAGES + stage;
        int before = promises[place];
        promises[place] = hours;
        return before;
    }

    public boolean isCovered(int site, int kind, int day)
            throws IndexOutOfBoundsException, IllegalArgumentException {
        Site asked = siteAt(site);
        checkKind(kind);
        checkRange(day, 0, LAST_DAY);
        return asked.covers(kind, day);
    }

    public int nextGap(int site, int kind, int day)
            throws IndexOutOfBoundsException, IllegalArgumentException {
        Site asked = siteAt(site);
        checkKind(kind);
        checkRange(day, 0, LAST_DAY);
        for (int gap = day; gap <= LAST_DAY; gap++) {
            if (!asked.covers(kind, gap)) {
                return gap;
            }
        }
        return NONE;
    }

    public int pass(int hours) throws IllegalArgumentException, IllegalStateException {
        checkRange(hours, 1, 1000);
        checkState(now + hours <= LAST_TIME);
        for (Case running : cases) {
            if (running != null) {
                running.runClocks(now, now + hours);
            }
        }
        now += hours;
        return now;
    }

    public int time() {
        return now;
    }

    public int hours(int site, int from, int to)
            throws IndexOutOfBoundsException, IllegalArgumentException {
        Site asked = siteAt(site);
        checkRange(from, 0, LAST_TIME);
        checkRange(to, from, LAST_TIME);
        return asked.countHours(from, to);
    }

    public int hoursOneByOne(int site, int from, int to)
            throws IndexOutOfBoundsException, IllegalArgumentException {
        Site asked = siteAt(site);
        checkRange(from, 0, LAST_TIME);
        checkRange(to, from, LAST_TIME);
        int counted = 0;
        for (int hour = from; hour < to; hour++) {
            if (asked.counts(hour)) {
                counted++;
            }
        }
        return counted;
    }

    // ---- cases

    public int open(int site, int kind, int gravity)
            throws IndexOutOfBoundsException, IllegalArgumentException, IllegalStateException {
        Site home = siteAt(site);
        checkKind(kind);
        checkRange(gravity, 0, GRAVITIES - 1);
        checkState(caseCount < MOST_CASES);
        int number = caseCount;
        cases[number] = new Case(home, kind, gravity);
        caseCount++;
        return number;
    }

    public int reach(int number, int stage)
            throws IndexOutOfBoundsException, IllegalArgumentException, IllegalStateException {
        Case reaching = caseAt(number);
        checkRange(stage, ANSWER, MEND);
        checkState(reaching.state == OPEN && !reaching.hasReached(stage));
        reaching.stagesReached = stage + 1;
        int missed = countMissedOfReached(reaching);
        if (stage == MEND) {
            closeMended(reaching, missed);
        }
        return missed;
    }

    public boolean rest(int number, boolean rests)
            throws IndexOutOfBoundsException, IllegalStateException {
        Case changed = caseAt(number);
        checkState(changed.state == OPEN);
        boolean before = changed.rests;
        changed.rests = rests;
        return before;
    }

    public int setGravity(int number, int gravity)
            throws IndexOutOfBoundsException, IllegalArgumentException, IllegalStateException {
        Case changed = caseAt(number);
        checkRange(gravity, 0, GRAVITIES - 1);
        checkState(changed.state == OPEN);
        int before = changed.gravity;
        changed.gravity = gravity;
        return before;
    }

    public int join(int number, int head)
            throws IndexOutOfBoundsException, IllegalArgumentException, IllegalStateException {
        Case joining = caseAt(number);
        Case leading = caseAt(head);
        checkArgument(joining != leading && joining.site == leading.site);
        checkState(joining.state == OPEN && leading.state == OPEN && countJoinedTo(joining) == 0);
        joining.state = JOINED;
        joining.head = leading;
        return countJoinedTo(leading);
    }

    public int openAnew(int number) throws IndexOutOfBoundsException, IllegalStateException {
        Case opened = caseAt(number);
        checkState(opened.state == CLOSED);
        opened.state = OPEN;
        opened.rests = false;
        // a case that was closed with its head may have reached less than VISIT
        opened.stagesReached = Math.min(opened.stagesReached, MEND);
        return opened.clocks[MEND];
    }

    public int stateOf(int number) throws IndexOutOfBoundsException {
        return caseAt(number).state;
    }

    public int clock(int number, int stage)
            throws IndexOutOfBoundsException, IllegalArgumentException {
        Case asked = caseAt(number);
        checkRange(stage, ANSWER, MEND);
        return asked.clocks[stage];
    }

    public boolean isMissed(int number, int stage)
            throws IndexOutOfBoundsException, IllegalArgumentException {
        Case asked = caseAt(number);
        checkRange(stage, ANSWER, MEND);
        return misses(asked, stage);
    }

    public int step(int number) throws IndexOutOfBoundsException {
        return greatestStep(caseAt(number));
    }

    public int mostUrgent() {
        int urgent = NONE;
        int urgentStep = 0;
        int urgentGravity = 0;
        for (int number = 0; number < caseCount; number++) {
            Case rival = cases[number];
            if (rival != null && rival.isRunning()) {
                int rivalStep = greatestStep(rival);
                if (urgent == NONE || rivalStep > urgentStep
                        || rivalStep == urgentStep && rival.gravity > urgentGravity) {
                    urgent = number;
                    urgentStep = rivalStep;
                    urgentGravity = rival.gravity;
                }
            }
        }
        return urgent;
    }

    // ---- work and money

    public int buy(int site, int hours)
            throws IndexOutOfBoundsException, IllegalArgumentException {
        Site buyer = siteAt(site);
        checkRange(hours, 1, 100);
        buyer.hoursAhead += hours;
        buyer.centsOwed += hours * CENTS_AHEAD;
        return buyer.hoursAhead;
    }

    public int work(int number, int hours)
            throws IndexOutOfBoundsException, IllegalArgumentException, IllegalStateException {
        Case worked = caseAt(number);
        checkRange(hours, 1, 100);
        checkState(worked.state == OPEN);
        if (isCoveredToday(worked)) {
            return 0;
        }
        Site payer = worked.site;
        int fromAhead = Math.min(hours, payer.hoursAhead);
        int cents = (hours - fromAhead) * CENTS_WORK;
        payer.hoursAhead -= fromAhead;
        payer.centsOwed += cents;
        return cents;
    }

    public int ahead(int site) throws IndexOutOfBoundsException {
        return siteAt(site).hoursAhead;
    }

    public int owes(int site) throws IndexOutOfBoundsException {
        return siteAt(site).centsOwed;
    }

    // ---- looked up and checked

    private Site siteAt(int site) {
        Site found = site >= 0 && site < SITES ? sites[site] : null;
        if (found == null) {
            throw new IndexOutOfBoundsException("no such site");
        }
        return found;
    }

    private Case caseAt(int number) {
        Case found = number >= 0 && number < MOST_CASES ? cases[number] : null;
        if (found == null) {
            throw new IndexOutOfBoundsException("no such case");
        }
        return found;
    }

    private static void checkKind(int kind) {
        if (kind < 0 || kind >= KINDS) {
            throw new IndexOutOfBoundsException("no such kind");
        }
    }

    private static void checkRange(int value, int least, int most) {
        checkArgument(least <= value && value <= most);
    }

    private static void checkArgument(boolean holds) {
        if (!holds) {
            throw new IllegalArgumentException("an argument is out of its range");
        }
    }

    private static void checkState(boolean holds) {
        if (!holds) {
            throw new IllegalStateException("not in this state");
        }
    }

    // ---- promises of a case

    private int promiseFor(Case asked, int stage) {
        return promises[asked.gravity * STAGES + stage];
    }

    private boolean misses(Case asked, int stage) {
        return asked.clocks[stage] > promiseFor(asked, stage);
    }

    private int countMissedOfReached(Case asked) {
        int missed = 0;
        for (int stage = ANSWER; stage <= MEND; stage++) {
            if (asked.hasReached(stage) && misses(asked, stage)) {
                missed++;
            }
        }
        return missed;
    }

    private int greatestStep(Case asked) {
        int greatest = 0;
        for (int stage = ANSWER; stage <= MEND; stage++) {
            greatest = Math.max(greatest, stepOfStage(asked, stage));
        }
        return greatest;
    }

    private int stepOfStage(Case asked, int stage) {
        if (asked.hasReached(stage)) {
            return 0;
        }
        // multiplied on both sides, so that no division rounds
        int used = 100 * asked.clocks[stage];
        int promise = promiseFor(asked, stage);
        if (used > 100 * promise) {
            return 3;
        }
        if (used >= 75 * promise) {
            return 2;
        }
        return used >= 50 * promise ? 1 : 0;
    }

    // ---- the end of a case

    private boolean isCoveredToday(Case asked) {
        return asked.site.covers(asked.kind, now / DAY_HOURS);
    }

    private void closeMended(Case mended, int missed) {
        mended.state = CLOSED;
        for (Case follower : cases) {
            if (follower != null && follower.isJoinedTo(mended)) {
                follower.state = CLOSED;
            }
        }
        if (isCoveredToday(mended)) {
            mended.site.centsOwed -= missed * CENTS_CREDIT;
        }
    }

    private int countJoinedTo(Case head) {
        int joined = 0;
        for (Case follower : cases) {
            if (follower != null && follower.isJoinedTo(head)) {
                joined++;
            }
        }
        return joined;
    }

    /** A site: its calendar, its contracts, and what it has ahead and owes. */
    private static final class Site {
        int days = 31;
        int firstHour = 8;
        int lastHour = 17;

        final int[] contractKinds = new int[MOST_CONTRACTS];
        final int[] contractFrom = new int[MOST_CONTRACTS];
        final int[] contractTo = new int[MOST_CONTRACTS];
        int contractCount = 0;

        int hoursAhead = 0;
        int centsOwed = 0;

        /** Answers whether there was room for it. */
        boolean keepContract(int kinds, int from, int to) {
            if (contractCount >= MOST_CONTRACTS) {
                return false;
            }
            contractKinds[contractCount] = kinds;
            contractFrom[contractCount] = from;
            contractTo[contractCount] = to;
            contractCount++;
            return true;
        }

        boolean covers(int kind, int day) {
            for (int i = 0; i < contractCount; i++) {
                if ((contractKinds[i] >> kind & 1) != 0
                        && contractFrom[i] <= day && day <= contractTo[i]) {
                    return true;
                }
            }
            return false;
        }

        boolean countsDay(int day) {
            return (days >> day % WEEK_DAYS & 1) != 0;
        }

        boolean counts(int hour) {
            int hourOfDay = hour % DAY_HOURS;
            return countsDay(hour / DAY_HOURS) && firstHour <= hourOfDay && hourOfDay <= lastHour;
        }

        int countHours(int from, int to) {
            return countBefore(to) - countBefore(from);
        }

        /** How many hours from 0 up to, not including, an end count; without a walk over them. */
        private int countBefore(int end) {
            int day = end / DAY_HOURS;
            int begunWeek = days & ((1 << day % WEEK_DAYS) - 1);
            int wholeDays = day / WEEK_DAYS * Integer.bitCount(days) + Integer.bitCount(begunWeek);
            int hoursOfDay = lastHour - firstHour + 1;
            int counted = wholeDays * hoursOfDay;
            if (countsDay(day)) {
                counted += Math.min(Math.max(end % DAY_HOURS - firstHour, 0), hoursOfDay);
            }
            return counted;
        }
    }

    /** A case with its three clocks. */
    private static final class Case {
        final Site site;
        final int kind;
        int gravity;
        int state = OPEN;
        boolean rests = false;
        // what it is joined to; tells something only while the state is JOINED
        Case head = null;
        // a number is enough: to reach a stage reaches those ahead of it as well
        int stagesReached = 0;
        final int[] clocks = new int[STAGES];

        Case(Site site, int kind, int gravity) {
            this.site = site;
            this.kind = kind;
            this.gravity = gravity;
        }

        boolean isRunning() {
            return state == OPEN && !rests;
        }

        boolean hasReached(int stage) {
            return stage < stagesReached;
        }

        boolean isJoinedTo(Case other) {
            return state == JOINED && head == other;
        }

        void runClocks(int from, int to) {
            if (!isRunning()) {
                return;
            }
            int counted = site.countHours(from, to);
            for (int stage = ANSWER; stage <= MEND; stage++) {
                if (!hasReached(stage)) {
                    clocks[stage] += counted;
                }
            }
        }
    }
}
