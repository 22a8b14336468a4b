/**
 * Hours at which lanes are closed for works on a road: where each work may begin, the plan of least
 * delay, approvals, what moves when a work is late, notices, and what delay costs.
 */
public final class ClosureHours {
    public static final int BAD = -1, NONE = -100;

    private static final int MOST_HOURS = 36;
    private static final int MOST_WORKS = 4;
    private static final int MOST_LENGTH = 12;
    private static final int MOST_SET_UP = 3;
    private static final int MOST_MINUTES = 100000;
    private static final int MOST_REST = 36;
    private static final int MOST_CENTS = 1000000;
    private static final int CREWS = 4;
    private static final int MINUTES_AN_HOUR = 60;

    private static final int PLANNED = 0;
    private static final int OPEN = 3;

    private static final int EVENTS = 6;
    private static final int PERSONS = 3;
    private static final int ASK = 0;
    /** For each event, a bit for each person who may bring it. */
    private static final int[] EVENT_BY = {1, 2, 2, 4, 4, 7};
    /** For each event, a bit for each state that it leads out of. */
    private static final int[] EVENT_FROM = {1, 2, 6, 4, 8, 8};
    private static final int[] EVENT_TO = {1, 2, 0, 3, 4, 2};

    /** Above the delay of any four works together, so that one move outweighs all delay. */
    private static final int MOVE_COST = 10000000;

    private final int hours;
    private final Work[] works;
    private final int[] rests;
    private final Notices notices;
    private final Search search;
    private int made;
    private int movedBits;
    private int centsAnHour;

    public ClosureHours(int hours) {
        this.hours = Math.max(1, Math.min(MOST_HOURS, hours));
        works = new Work[MOST_WORKS];
        for (int w = 0; w < MOST_WORKS; w++) {
            works[w] = new Work(w);
        }
        rests = new int[CREWS];
        notices = new Notices();
        search = new Search();
    }

    public int work(int length, int setUp) {
        boolean fits = isWithin(length, 1, MOST_LENGTH) && isWithin(setUp, 0, MOST_SET_UP);
        if (made >= MOST_WORKS || !fits) {
            return BAD;
        }
        works[made].length = length;
        works[made].setUp = setUp;
        made++;
        return made - 1;
    }

    public boolean near(int a, int b, boolean are) {
        if (!isWork(a) || !isWork(b) || a == b) {
            return false;
        }
        works[a].nearBits = (int) withBit(works[a].nearBits, b, are);
        works[b].nearBits = (int) withBit(works[b].nearBits, a, are);
        return true;
    }

    public boolean delay(int work, int hour, int minutes) {
        if (!isWork(work) || !isHour(hour) || !isWithin(minutes, 0, MOST_MINUTES)) {
            return false;
        }
        works[work].delays[hour] = minutes;
        return true;
    }

    public boolean night(int work, boolean must) {
        if (!isWork(work)) {
            return false;
        }
        works[work].nightOnly = must;
        return true;
    }

    public boolean event(int work, int hour, boolean is) {
        if (!isWork(work) || !isHour(hour)) {
            return false;
        }
        works[work].eventBits = withBit(works[work].eventBits, hour, is);
        return true;
    }

    public boolean noise(int work, int from, int to) {
        if (!isWork(work) || !isHour(from) || !isHour(to)) {
            return false;
        }
        works[work].noiseBits = from > to ? 0L : bitsFrom(from, to - from + 1);
        return true;
    }

    public boolean crew(int work, int crew) {
        if (!isWork(work) || !isCrew(crew)) {
            return false;
        }
        works[work].crew = crew;
        return true;
    }

    public boolean rest(int crew, int hours) {
        if (!isCrew(crew) || !isWithin(hours, 0, MOST_REST)) {
            return false;
        }
        rests[crew] = hours;
        return true;
    }

    public int run(int work) {
        if (!isWork(work) || works[work].isFixed()) {
            return NONE;
        }
        int best = BAD;
        int bestDelay = 0;
        int greatestRule = 0;
        for (int s = 0; s < hours; s++) {
            int rule = firstBrokenRule(work, s);
            greatestRule = Math.max(greatestRule, rule);
            if (rule == 0) {
                int delay = works[work].delayFrom(s);
                if (best == BAD || delay < bestDelay) {
                    best = s;
                    bestDelay = delay;
                }
            }
        }
        if (best == BAD) {
            return -1 - greatestRule;
        }
        movedBits = 0;
        putAt(work, best);
        return best;
    }

    public boolean drop(int work) {
        if (!isPlacedWork(work) || works[work].isFixed()) {
            return false;
        }
        movedBits = 0;
        putAt(work, BAD);
        return true;
    }

    public boolean may(int work, int hour) {
        return isWork(work) && isHour(hour) && firstBrokenRule(work, hour) == 0;
    }

    public int all() {
        if (made == 0 || !findPlan(BAD, 0)) {
            return BAD;
        }
        takePlan();
        return search.bestCost();
    }

    public int late(int work, int hour) {
        if (!isWork(work) || !isHour(hour) || works[work].isFixed() || placedWorks() < made) {
            return BAD;
        }
        if (!findPlan(work, hour)) {
            return BAD;
        }
        takePlan();
        return search.bestCost() / MOVE_COST;
    }

    public int moved(int k) {
        int before = 0;
        for (int w = 0; w < made; w++) {
            if (hasBit(movedBits, w)) {
                if (before == k) {
                    return w;
                }
                before++;
            }
        }
        return BAD;
    }

    public int start(int work) {
        return isPlacedWork(work) ? works[work].start : BAD;
    }

    public int least(int work) {
        if (work != -1) {
            return isPlacedWork(work) ? works[work].delayFrom(works[work].start) : BAD;
        }
        int sum = 0;
        for (int w = 0; w < made; w++) {
            if (isPlacedWork(w)) {
                sum += works[w].delayFrom(works[w].start);
            }
        }
        return sum;
    }

    public int act(int work, int event, int person) {
        if (!isWork(work) || !isWithin(event, 0, EVENTS - 1) || !isWithin(person, 0, PERSONS - 1)) {
            return BAD;
        }
        Work acted = works[work];
        if (!hasBit(EVENT_BY[event], person) || !hasBit(EVENT_FROM[event], acted.state)) {
            return BAD;
        }
        if (event == ASK && !acted.isPlaced()) {
            return BAD;
        }
        acted.state = EVENT_TO[event];
        return acted.state;
    }

    public int state(int work) {
        return isWork(work) ? works[work].state : BAD;
    }

    public int notice(int k, int what) {
        if (!notices.isKept(k)) {
            return BAD;
        }
        switch (what) {
            case 0:
                return notices.works[k];
            case 1:
                return notices.starts[k];
            default:
                return BAD;
        }
    }

    public boolean rate(int cents) {
        if (!isWithin(cents, 0, MOST_CENTS)) {
            return false;
        }
        centsAnHour = cents;
        return true;
    }

    public long paid(int work) {
        if (work != -1) {
            return costOf(work);
        }
        long sum = 0L;
        for (int w = 0; w < made; w++) {
            sum += costOf(w);
        }
        return sum;
    }

    public int open(int hour) {
        if (!isHour(hour)) {
            return BAD;
        }
        int many = 0;
        for (int w = 0; w < made; w++) {
            if (isPlacedWork(w) && hasBit(works[w].spanFrom(works[w].start), hour)) {
                many++;
            }
        }
        return many;
    }

    public boolean holds() {
        for (int w = 0; w < made; w++) {
            if (isPlacedWork(w) && firstBrokenRule(w, works[w].start) != 0) {
                return false;
            }
        }
        return true;
    }

    public int count(int what) {
        switch (what) {
            case 0:
                return hours;
            case 1:
                return made;
            case 2:
                return placedWorks();
            case 3:
                return notices.total;
            default:
                return BAD;
        }
    }

    private boolean isWork(int work) {
        return work >= 0 && work < made;
    }

    private boolean isPlacedWork(int work) {
        return isWork(work) && works[work].isPlaced();
    }

    private boolean isHour(int hour) {
        return hour >= 0 && hour < hours;
    }

    private static boolean isCrew(int crew) {
        return crew >= 0 && crew < CREWS;
    }

    private int placedWorks() {
        int placed = 0;
        for (int w = 0; w < made; w++) {
            if (works[w].isPlaced()) {
                placed++;
            }
        }
        return placed;
    }

    private long costOf(int work) {
        if (!isPlacedWork(work)) {
            return 0L;
        }
        long minutes = works[work].delayFrom(works[work].start);
        return minutes * centsAnHour / MINUTES_AN_HOUR;
    }

    /** The number of the first rule that a start would break with the others as placed; 0: none. */
    private int firstBrokenRule(int work, int start) {
        int own = works[work].firstBrokenAlone(start, hours);
        if (own != 0) {
            return own;
        }
        if (clashesWithNear(work, start)) {
            return 5;
        }
        return clashesWithCrew(work, start) ? 6 : 0;
    }

    private boolean clashesWithNear(int work, int start) {
        for (int v = 0; v < made; v++) {
            if (v != work && works[v].isPlaced() && hasBit(works[work].nearBits, v)
                    && !works[work].isApart(start, works[v], 0)) {
                return true;
            }
        }
        return false;
    }

    private boolean clashesWithCrew(int work, int start) {
        int crew = works[work].crew;
        for (int v = 0; v < made; v++) {
            if (v != work && works[v].isPlaced() && works[v].crew == crew
                    && !works[work].isApart(start, works[v], rests[crew])) {
                return true;
            }
        }
        return false;
    }

    /** The hours that must lie between two works; BAD: their spans may share hours. */
    private int gapBetween(int a, int b) {
        // A crew's rest is never below the 0 hours that neighbours need, so it stands for both.
        if (works[a].crew == works[b].crew) {
            return rests[works[a].crew];
        }
        return hasBit(works[a].nearBits, b) ? 0 : BAD;
    }

    /** Searches the best plan; a late work (BAD: none) makes moves of the others count first. */
    private boolean findPlan(int lateWork, int notBefore) {
        search.begin(made);
        for (int w = 0; w < made; w++) {
            search.setSpan(w, works[w].span());
            for (int v = 0; v < w; v++) {
                search.setGap(v, w, gapBetween(v, w));
            }
            offerStarts(w, w == lateWork ? notBefore : 0, lateWork != BAD && w != lateWork);
        }
        return search.solve();
    }

    private void offerStarts(int work, int from, boolean movesCost) {
        Work offered = works[work];
        for (int s = from; s < hours; s++) {
            boolean stays = s == offered.start;
            if ((stays || !offered.isFixed()) && offered.firstBrokenAlone(s, hours) == 0) {
                int cost = offered.delayFrom(s);
                search.offer(work, s, movesCost && !stays ? cost + MOVE_COST : cost);
            }
        }
    }

    private void takePlan() {
        movedBits = 0;
        for (int w = 0; w < made; w++) {
            putAt(w, search.best[w]);
        }
    }

    private void putAt(int work, int start) {
        if (works[work].start == start) {
            return;
        }
        works[work].start = start;
        works[work].state = PLANNED;
        movedBits = (int) withBit(movedBits, work, true);
        notices.write(work, start);
    }

    private static boolean isWithin(int number, int from, int to) {
        return number >= from && number <= to;
    }

    private static boolean hasBit(long bits, int bit) {
        return (bits >> bit & 1L) != 0L;
    }

    private static long withBit(long bits, int bit, boolean on) {
        return on ? bits | 1L << bit : bits & ~(1L << bit);
    }

    /** The bits of so many hours; first and many together stay below 63 for all that is asked. */
    private static long bitsFrom(int first, int many) {
        return (1L << many) - 1L << first;
    }

    /** One work: what it asks for, where it is placed, and how far its approval is. */
    private static final class Work {
        /** A bit for each hour that is 20 .. 23 or 0 .. 4 by the clock: 0 .. 4 and 20 .. 28. */
        private static final long NIGHT_HOURS = 0x1FF0001FL;

        private final int[] delays;
        private int length;
        private int setUp;
        private boolean nightOnly;
        private long eventBits;
        private long noiseBits;
        private int nearBits;
        private int crew;
        private int start;
        private int state;

        private Work(int number) {
            delays = new int[MOST_HOURS];
            crew = number;
            start = BAD;
            state = PLANNED;
        }

        private boolean isPlaced() {
            return start != BAD;
        }

        private boolean isFixed() {
            return state >= OPEN;
        }

        private int span() {
            return setUp + length;
        }

        private long spanFrom(int first) {
            return bitsFrom(first, span());
        }

        private int delayFrom(int first) {
            int end = Math.min(first + span(), MOST_HOURS);
            int sum = 0;
            for (int h = first; h < end; h++) {
                sum += delays[h];
            }
            return sum;
        }

        /** The first of rules 1 to 4, those that need no other work, that a start breaks; 0: none. */
        private int firstBrokenAlone(int first, int hours) {
            if (first + span() > hours) {
                return 1;
            }
            long spanBits = spanFrom(first);
            if (nightOnly && (spanBits & ~NIGHT_HOURS) != 0L) {
                return 2;
            }
            if ((spanBits & eventBits) != 0L) {
                return 3;
            }
            return (bitsFrom(first + setUp, length) & noiseBits) != 0L ? 4 : 0;
        }

        /** Whether so many hours lie between this work, if it began there, and a placed one. */
        private boolean isApart(int first, Work placed, int gap) {
            return first + span() + gap <= placed.start
                    || placed.start + placed.span() + gap <= first;
        }
    }

    /** The notices: all are counted, the first ones are kept. */
    private static final class Notices {
        private static final int MOST_KEPT = 200;
        /** Far above what 512 calls can write, so that the counter never wraps around. */
        private static final int MOST_COUNTED = 1000000;

        private final int[] works;
        private final int[] starts;
        private int total;

        private Notices() {
            works = new int[MOST_KEPT];
            starts = new int[MOST_KEPT];
        }

        private boolean isKept(int k) {
            return k >= 0 && k < total && k < MOST_KEPT;
        }

        private void write(int work, int start) {
            if (total < MOST_KEPT) {
                works[total] = work;
                starts[total] = start;
            }
            total = Math.min(total + 1, MOST_COUNTED);
        }
    }

    /**
     * Finds the starts of least cost for all works together. A start's weight is its cost and, behind
     * it, the start as a digit of the plan's place in order: so no two plans weigh the same, and the
     * lightest is the one of least cost that comes first, in whichever order plans are tried.
     */
    private static final class Search {
        private static final long NOT_FOUND = 1L << 62;
        /** As many plans as there are starts to the power of works. */
        private static final long PLANS = 1679616L;

        private final int[] spans;
        private final int[][] gaps;
        private final long[][] weights;
        /** The starts offered for each work, lightest first, and how many they are. */
        private final int[][] order;
        private final int[] offered;
        /** By depth: bits of the starts that the works placed so far leave to each other work. */
        private final long[][] left;
        private final int[] trial;
        private final int[] best;
        private long bestWeight;
        private int many;

        private Search() {
            spans = new int[MOST_WORKS];
            gaps = new int[MOST_WORKS][MOST_WORKS];
            weights = new long[MOST_WORKS][MOST_HOURS];
            order = new int[MOST_WORKS][MOST_HOURS];
            offered = new int[MOST_WORKS];
            left = new long[MOST_WORKS][MOST_WORKS];
            trial = new int[MOST_WORKS];
            best = new int[MOST_WORKS];
        }

        private void begin(int works) {
            many = works;
            bestWeight = NOT_FOUND;
            for (int w = 0; w < works; w++) {
                offered[w] = 0;
                left[0][w] = 0L;
            }
        }

        private void setSpan(int work, int span) {
            spans[work] = span;
        }

        private void setGap(int earlier, int later, int gap) {
            gaps[earlier][later] = gap;
        }

        /** One more start for a work; each is offered once at most. */
        private void offer(int work, int start, int cost) {
            long weight = cost * PLANS + digit(work, start);
            weights[work][start] = weight;
            int place = offered[work];
            while (place > 0 && weights[work][order[work][place - 1]] > weight) {
                order[work][place] = order[work][place - 1];
                place--;
            }
            order[work][place] = start;
            offered[work]++;
            left[0][work] = withBit(left[0][work], start, true);
        }

        private static long digit(int work, int start) {
            long digit = start;
            for (int w = work + 1; w < MOST_WORKS; w++) {
                digit *= MOST_HOURS;
            }
            return digit;
        }

        private boolean solve() {
            place(0, 0L);
            return bestWeight != NOT_FOUND;
        }

        private int bestCost() {
            return (int) (bestWeight / PLANS);
        }

        /** Tries the starts of one work, those before it being placed with this weight. */
        private void place(int work, long weight) {
            if (work >= many) {
                bestWeight = weight;
                System.arraycopy(trial, 0, best, 0, many);
                return;
            }
            for (int i = 0; i < offered[work]; i++) {
                int start = order[work][i];
                if (hasBit(left[work][work], start)) {
                    long sum = weight + weights[work][start];
                    if (sum + lightestLeft(work, work + 1) >= bestWeight) {
                        return;
                    }
                    trial[work] = start;
                    narrow(work, start);
                    if (sum + lightestLeft(work + 1, work + 1) < bestWeight) {
                        place(work + 1, sum);
                    }
                }
            }
        }

        /** What the works from one on weigh at the least, by what is left at a depth. */
        private long lightestLeft(int depth, int from) {
            long sum = 0L;
            for (int w = from; w < many; w++) {
                if (left[depth][w] == 0L) {
                    return NOT_FOUND;
                }
                sum += lightest(w, left[depth][w]);
            }
            return sum;
        }

        private long lightest(int work, long among) {
            for (int i = 0; i < offered[work]; i++) {
                if (hasBit(among, order[work][i])) {
                    return weights[work][order[work][i]];
                }
            }
            return NOT_FOUND;
        }

        /** What a work at a start leaves to those behind it. */
        private void narrow(int work, int start) {
            for (int w = work + 1; w < many; w++) {
                int gap = gaps[work][w];
                long barred = 0L;
                if (gap != BAD) {
                    int from = Math.max(0, start - spans[w] - gap + 1);
                    int to = Math.min(MOST_HOURS - 1, start + spans[work] + gap - 1);
                    barred = bitsFrom(from, to - from + 1);
                }
                left[work + 1][w] = left[work][w] & ~barred;
            }
        }
    }
}
