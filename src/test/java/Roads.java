/** Objects for the tests to begin with, and what can be seen of one from outside. */
final class Roads {
    static final int BAD = ClosureHours.BAD;
    static final int NONE = ClosureHours.NONE;
    static final int LOW = Integer.MIN_VALUE;
    static final int HIGH = Integer.MAX_VALUE;
    /** Numbers that are no work in an object of two works. */
    static final int[] NO_WORKS = {LOW, -2, -1, 2, 3, 4, HIGH};
    /** Numbers that are no hour in an object of six hours. */
    static final int[] NO_HOURS = {LOW, -2, -1, 6, 7, 36, HIGH};
    static final int[] NO_CREWS = {LOW, -1, 4, 5, HIGH};

    private Roads() {
    }

    /** Works that are alike, near nothing, each of its own crew. */
    static ClosureHours road(int hours, int works, int length, int setUp) {
        ClosureHours x = new ClosureHours(hours);
        for (int w = 0; w < works; w++) {
            x.work(length, setUp);
        }
        return x;
    }

    /** Two works of two hours, near nothing, each of its own crew. */
    static ClosureHours two(int hours) {
        return road(hours, 2, 2, 0);
    }

    static void allNear(ClosureHours x) {
        for (int a = x.count(1) - 1; a > 0; a--) {
            for (int b = 0; b < a; b++) {
                x.near(a, b, true);
            }
        }
    }

    static void delays(ClosureHours x, int work, int... minutes) {
        for (int h = 0; h < minutes.length; h++) {
            x.delay(work, h, minutes[h]);
        }
    }

    static void barAll(ClosureHours x, int work) {
        int hours = x.count(0);
        for (int h = 0; h < hours; h++) {
            x.event(work, h, true);
        }
    }

    /** Only the hours that are named are left to a work. */
    static void only(ClosureHours x, int work, int... hours) {
        barAll(x, work);
        for (int h : hours) {
            x.event(work, h, false);
        }
    }

    /** Places a work at a start and leaves no rule behind. */
    static void placeAt(ClosureHours x, int work, int start, int span) {
        barAll(x, work);
        for (int h = start; h < start + span; h++) {
            x.event(work, h, false);
        }
        x.run(work);
        for (int h = x.count(0) - 1; h >= 0; h--) {
            x.event(work, h, false);
        }
    }

    /** Brings a placed work that is PLANNED to a state. */
    static void bring(ClosureHours x, int work, int state) {
        int[] events = {0, 1, 3, 4};
        int[] persons = {0, 1, 2, 2};
        for (int i = 0; i < state; i++) {
            x.act(work, events[i], persons[i]);
        }
    }

    static String starts(ClosureHours x) {
        StringBuilder text = new StringBuilder();
        int works = x.count(1);
        for (int w = 0; w < works; w++) {
            text.append(w == 0 ? "" : " ").append(x.start(w));
        }
        return text.toString();
    }

    static String moved(ClosureHours x) {
        StringBuilder text = new StringBuilder();
        for (int k = 0; k < 5; k++) {
            text.append(k == 0 ? "" : " ").append(x.moved(k));
        }
        return text.toString();
    }

    /** The starts that a work might have: a 1 for each hour at which it might begin. */
    static String may(ClosureHours x, int work) {
        StringBuilder text = new StringBuilder();
        int hours = x.count(0);
        for (int h = 0; h < hours; h++) {
            text.append(x.may(work, h) ? 1 : 0);
        }
        return text.toString();
    }

    /** All that the calls which change nothing can tell: a refused call leaves it as it is. */
    static String seen(ClosureHours x) {
        int hours = x.count(0);
        int works = x.count(1);
        int notices = x.count(3);
        StringBuilder text = new StringBuilder("hours " + hours + ", works " + works);
        text.append(", placed ").append(x.count(2));
        for (int w = 0; w < works; w++) {
            text.append("; work ").append(w).append(": start ").append(x.start(w));
            text.append(" state ").append(x.state(w)).append(" least ").append(x.least(w));
            text.append(" paid ").append(x.paid(w)).append(" may ").append(may(x, w));
        }
        text.append("; moved ").append(moved(x)).append("; open");
        for (int h = 0; h < hours; h++) {
            text.append(' ').append(x.open(h));
        }
        text.append("; holds ").append(x.holds()).append("; notices");
        for (int k = 0; k < notices; k++) {
            text.append(' ').append(x.notice(k, 0)).append(" at ").append(x.notice(k, 1));
        }
        return text.toString();
    }
}
