/**
 * The document in its plainest form: rules hour by hour, plans by trying every one. It shares no
 * code and no idea of speed with ClosureHours, so that the two can be compared.
 */
final class Model {
    private static final int NOT_PLACED = -1;

    final int n;
    int works;
    private final int[] length = new int[4];
    private final int[] setUp = new int[4];
    private final int[][] minutes = new int[4][36];
    private final boolean[][] isNear = new boolean[4][4];
    private final boolean[] isNight = new boolean[4];
    private final boolean[][] isEvent = new boolean[4][36];
    private final boolean[][] isNoise = new boolean[4][36];
    private final int[] crewOf = {0, 1, 2, 3};
    private final int[] restOf = new int[4];
    private int[] plan = {NOT_PLACED, NOT_PLACED, NOT_PLACED, NOT_PLACED};
    private final int[] stateOf = new int[4];
    private boolean[] hasMoved = new boolean[4];
    private final int[] noticeWork = new int[5000];
    private final int[] noticeStart = new int[5000];
    private int notices;
    private int cents;

    private int[] bestPlan;
    private int bestMoves;
    private int bestDelay;

    Model(int hours) {
        n = hours < 1 ? 1 : hours > 36 ? 36 : hours;
    }

    private boolean known(int work) {
        return 0 <= work && work < works;
    }

    private boolean hour(int h) {
        return 0 <= h && h < n;
    }

    private boolean placed(int work) {
        return known(work) && plan[work] != NOT_PLACED;
    }

    private boolean stuck(int work) {
        return stateOf[work] == 3 || stateOf[work] == 4;
    }

    int work(int len, int set) {
        if (works == 4 || len < 1 || len > 12 || set < 0 || set > 3) {
            return -1;
        }
        length[works] = len;
        setUp[works] = set;
        return works++;
    }

    boolean near(int a, int b, boolean are) {
        if (!known(a) || !known(b) || a == b) {
            return false;
        }
        isNear[a][b] = are;
        isNear[b][a] = are;
        return true;
    }

    boolean delay(int work, int h, int m) {
        if (!known(work) || !hour(h) || m < 0 || m > 100_000) {
            return false;
        }
        minutes[work][h] = m;
        return true;
    }

    boolean night(int work, boolean must) {
        if (!known(work)) {
            return false;
        }
        isNight[work] = must;
        return true;
    }

    boolean event(int work, int h, boolean is) {
        if (!known(work) || !hour(h)) {
            return false;
        }
        isEvent[work][h] = is;
        return true;
    }

    boolean noise(int work, int from, int to) {
        if (!known(work) || !hour(from) || !hour(to)) {
            return false;
        }
        for (int h = 0; h < 36; h++) {
            isNoise[work][h] = from <= h && h <= to;
        }
        return true;
    }

    boolean crew(int work, int crew) {
        if (!known(work) || crew < 0 || crew > 3) {
            return false;
        }
        crewOf[work] = crew;
        return true;
    }

    boolean rest(int crew, int hours) {
        if (crew < 0 || crew > 3 || hours < 0 || hours > 36) {
            return false;
        }
        restOf[crew] = hours;
        return true;
    }

    private int span(int work) {
        return setUp[work] + length[work];
    }

    private int lastHour(int work, int start) {
        return start + span(work) - 1;
    }

    private int delayAt(int work, int start) {
        int sum = 0;
        for (int h = start; h <= lastHour(work, start); h++) {
            sum += minutes[work][h];
        }
        return sum;
    }

    /** The first rule that a work breaks at a start, the others being at these starts; 0: none. */
    private int broken(int work, int start, int[] starts) {
        int last = lastHour(work, start);
        if (last > n - 1) {
            return 1;
        }
        for (int h = start; h <= last; h++) {
            int clock = h % 24;
            if (isNight[work] && clock > 4 && clock < 20) {
                return 2;
            }
        }
        for (int h = start; h <= last; h++) {
            if (isEvent[work][h]) {
                return 3;
            }
        }
        for (int h = start + setUp[work]; h <= last; h++) {
            if (isNoise[work][h]) {
                return 4;
            }
        }
        for (int v = 0; v < works; v++) {
            if (v != work && starts[v] != NOT_PLACED && isNear[work][v]) {
                for (int h = start; h <= last; h++) {
                    if (starts[v] <= h && h <= lastHour(v, starts[v])) {
                        return 5;
                    }
                }
            }
        }
        for (int v = 0; v < works; v++) {
            if (v != work && starts[v] != NOT_PLACED && crewOf[v] == crewOf[work]) {
                int between = starts[v] > start
                        ? starts[v] - last - 1 : start - lastHour(v, starts[v]) - 1;
                if (between < restOf[crewOf[work]]) {
                    return 6;
                }
            }
        }
        return 0;
    }

    private void take(int[] next) {
        hasMoved = new boolean[4];
        for (int w = 0; w < works; w++) {
            if (next[w] != plan[w]) {
                hasMoved[w] = true;
                stateOf[w] = 0;
                noticeWork[notices] = w;
                noticeStart[notices] = next[w];
                notices++;
            }
        }
        plan = next;
    }

    int run(int work) {
        if (!known(work) || stuck(work)) {
            return -100;
        }
        int best = NOT_PLACED;
        int greatest = 0;
        for (int s = 0; s < n; s++) {
            int rule = broken(work, s, plan);
            greatest = Math.max(greatest, rule);
            if (rule == 0 && (best == NOT_PLACED || delayAt(work, s) < delayAt(work, best))) {
                best = s;
            }
        }
        if (best == NOT_PLACED) {
            return -1 - greatest;
        }
        int[] next = plan.clone();
        next[work] = best;
        take(next);
        return best;
    }

    boolean drop(int work) {
        if (!placed(work) || stuck(work)) {
            return false;
        }
        int[] next = plan.clone();
        next[work] = NOT_PLACED;
        take(next);
        return true;
    }

    boolean may(int work, int h) {
        return known(work) && hour(h) && broken(work, h, plan) == 0;
    }

    int all() {
        if (works == 0) {
            return -1;
        }
        bestPlan = null;
        tryPlans(0, new int[] {NOT_PLACED, NOT_PLACED, NOT_PLACED, NOT_PLACED}, -1, 0);
        if (bestPlan == null) {
            return -1;
        }
        take(bestPlan);
        return bestDelay;
    }

    int late(int work, int h) {
        if (!known(work) || !hour(h) || stuck(work)) {
            return -1;
        }
        for (int w = 0; w < works; w++) {
            if (!placed(w)) {
                return -1;
            }
        }
        bestPlan = null;
        tryPlans(0, new int[] {NOT_PLACED, NOT_PLACED, NOT_PLACED, NOT_PLACED}, work, h);
        if (bestPlan == null) {
            return -1;
        }
        take(bestPlan);
        return bestMoves;
    }

    /** Plans come in the order of their starts, so only a better one replaces what was found. */
    private void tryPlans(int work, int[] starts, int lateWork, int from) {
        if (work == works) {
            weigh(starts, lateWork);
            return;
        }
        for (int s = work == lateWork ? from : 0; s < n; s++) {
            if ((!stuck(work) || s == plan[work]) && broken(work, s, starts) == 0) {
                starts[work] = s;
                tryPlans(work + 1, starts, lateWork, from);
                starts[work] = NOT_PLACED;
            }
        }
    }

    private void weigh(int[] starts, int lateWork) {
        int moves = 0;
        int sum = 0;
        for (int w = 0; w < works; w++) {
            sum += delayAt(w, starts[w]);
            if (lateWork != -1 && w != lateWork && starts[w] != plan[w]) {
                moves++;
            }
        }
        if (bestPlan == null || moves < bestMoves || moves == bestMoves && sum < bestDelay) {
            bestPlan = starts.clone();
            bestMoves = moves;
            bestDelay = sum;
        }
    }

    int moved(int k) {
        int[] those = new int[4];
        int many = 0;
        for (int w = 0; w < works; w++) {
            if (hasMoved[w]) {
                those[many++] = w;
            }
        }
        return 0 <= k && k < many ? those[k] : -1;
    }

    int start(int work) {
        return known(work) ? plan[work] : -1;
    }

    int least(int work) {
        if (work == -1) {
            int sum = 0;
            for (int w = 0; w < works; w++) {
                sum += placed(w) ? delayAt(w, plan[w]) : 0;
            }
            return sum;
        }
        return placed(work) ? delayAt(work, plan[work]) : -1;
    }

    int act(int work, int event, int person) {
        if (!known(work) || person < 0 || person > 2) {
            return -1;
        }
        int now = stateOf[work];
        int next = -1;
        if (event == 0 && person == 0 && now == 0 && placed(work)) {
            next = 1;
        } else if (event == 1 && person == 1 && now == 1) {
            next = 2;
        } else if (event == 2 && person == 1 && (now == 1 || now == 2)) {
            next = 0;
        } else if (event == 3 && person == 2 && now == 2) {
            next = 3;
        } else if (event == 4 && person == 2 && now == 3) {
            next = 4;
        } else if (event == 5 && now == 3) {
            next = 2;
        }
        if (next != -1) {
            stateOf[work] = next;
        }
        return next;
    }

    int state(int work) {
        return known(work) ? stateOf[work] : -1;
    }

    int notice(int k, int what) {
        if (k < 0 || k >= notices || k > 199) {
            return -1;
        }
        return what == 0 ? noticeWork[k] : what == 1 ? noticeStart[k] : -1;
    }

    boolean rate(int c) {
        if (c < 0 || c > 1_000_000) {
            return false;
        }
        cents = c;
        return true;
    }

    long paid(int work) {
        if (work == -1) {
            return paid(0) + paid(1) + paid(2) + paid(3);
        }
        return placed(work) ? (long) delayAt(work, plan[work]) * cents / 60 : 0;
    }

    int open(int h) {
        if (!hour(h)) {
            return -1;
        }
        int many = 0;
        for (int w = 0; w < works; w++) {
            if (placed(w) && plan[w] <= h && h <= lastHour(w, plan[w])) {
                many++;
            }
        }
        return many;
    }

    boolean holds() {
        for (int w = 0; w < works; w++) {
            if (placed(w) && broken(w, plan[w], plan) != 0) {
                return false;
            }
        }
        return true;
    }

    int count(int what) {
        int many = 0;
        for (int w = 0; w < works; w++) {
            many += placed(w) ? 1 : 0;
        }
        return what == 0 ? n : what == 1 ? works : what == 2 ? many : what == 3 ? notices : -1;
    }
}
