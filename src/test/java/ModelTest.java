import java.util.Random;

/** Runs of up to 512 calls with arguments of all kinds: each answer must be the model's. */
public final class ModelTest {
    private static final int MOST_CALLS = 512;
    /** What one round of a run calls at the most. */
    private static final int ROUND = 20;
    private static final int[] WILD = {
        -1, -2, -100, 4, 5, 12, 13, 24, 35, 36, 37, 199, 200, 100_000, 100_001, 1_000_000, 1_000_001,
        Integer.MIN_VALUE, Integer.MAX_VALUE};

    private static final Due due = new Due();

    private final Random random;
    private final ClosureHours real;
    private final Model model;
    /** How far delays reach: few different ones make many like plans, many make few. */
    private final int delays;
    private final int wildOneIn;
    private final int lookOneIn;
    /** How seldom a rule bars more than before: plans of all works need that it is seldom. */
    private final int barOneIn;
    private final String where;
    private int calls;

    private ModelTest(int seed, int hours) {
        random = new Random(seed);
        real = new ClosureHours(hours);
        model = new Model(hours);
        delays = new int[] {1, 2, 5, 100, 100_001}[random.nextInt(5)];
        wildOneIn = random.nextInt(3) == 0 ? 8 : 60;
        barOneIn = 3 + random.nextInt(10);
        lookOneIn = random.nextInt(2) == 0 ? 1 : 50;
        where = "seed " + seed + ", hours " + hours + ": ";
    }

    public static void main(String[] args) {
        for (int seed = 0; seed < 2800; seed++) {
            new ModelTest(seed, seed % 18 - 1).manyCalls(4);
        }
        for (int seed = 5000; seed < 5200; seed++) {
            new ModelTest(seed, 20 + seed % 18).manyCalls(2 + seed % 2);
        }
        for (int seed = 6000; seed < 6030; seed++) {
            new ModelTest(seed, 24 + seed % 13).fourWorksInFull();
        }
        due.end();
    }

    private void manyCalls(int mostWorks) {
        callWork();
        callWork();
        while (calls <= MOST_CALLS - ROUND) {
            int which = random.nextInt(100);
            if (which < 4 && (model.works < mostWorks || random.nextInt(10) == 0 && mostWorks == 4)) {
                callWork();
            } else if (which < 35) {
                callRule(random.nextInt(9));
            } else if (which < 70) {
                callPlace(random.nextInt(15));
            } else {
                callAsk(random.nextInt(13));
            }
        }
    }

    /** Four works over many hours cost the model long, so there are few plans of all. */
    private void fourWorksInFull() {
        for (int w = 0; w < 4; w++) {
            callWork();
        }
        for (int round = 0; round < 3; round++) {
            for (int i = 0; i < 80; i++) {
                callRule(random.nextInt(9));
            }
            callPlace(11);
            callPlace(13);
            callAct();
            callAct();
            for (int i = 0; i < 20; i++) {
                callAsk(random.nextInt(13));
            }
        }
    }

    private int pick(int below) {
        if (random.nextInt(wildOneIn) == 0) {
            return WILD[random.nextInt(WILD.length)];
        }
        return random.nextInt(Math.max(1, below));
    }

    private int pickWork() {
        return pick(model.works);
    }

    private int pickHour() {
        return pick(model.n);
    }

    private void same(String call, long got, long want) {
        calls++;
        due.is(where + call, got, want);
    }

    private void same(String call, boolean got, boolean want) {
        same(call, got ? 1L : 0L, want ? 1L : 0L);
    }

    private void callWork() {
        int length = 1 + pick(Math.min(12, 1 + model.n / 3));
        int setUp = random.nextBoolean() ? 0 : pick(4);
        same("work(" + length + ", " + setUp + ")", real.work(length, setUp), model.work(length, setUp));
    }

    private void callRule(int which) {
        int w = pickWork();
        int h = pickHour();
        boolean is = random.nextInt(barOneIn) == 0;
        String at = "(" + w + ", " + h + ", ";
        if (which < 3) {
            int minutes = pick(delays);
            same("delay" + at + minutes + ")", real.delay(w, h, minutes), model.delay(w, h, minutes));
        } else if (which == 3) {
            int other = pickWork();
            boolean are = random.nextInt(1 + barOneIn / 2) == 0;
            same("near(" + w + ", " + other + ")", real.near(w, other, are), model.near(w, other, are));
        } else if (which == 4) {
            same("night(" + w + ", " + is + ")", real.night(w, is), model.night(w, is));
        } else if (which == 5) {
            same("event" + at + is + ")", real.event(w, h, is), model.event(w, h, is));
        } else if (which == 6) {
            int to = is ? pickHour() : h + random.nextInt(3) - 2;
            same("noise" + at + to + ")", real.noise(w, h, to), model.noise(w, h, to));
        } else if (which == 7) {
            int crew = pick(4);
            same("crew(" + w + ", " + crew + ")", real.crew(w, crew), model.crew(w, crew));
        } else {
            int crew = pick(4);
            int rest = random.nextInt(10) == 0 ? pick(37) : pick(3);
            same("rest(" + crew + ", " + rest + ")", real.rest(crew, rest), model.rest(crew, rest));
        }
    }

    private void callPlace(int which) {
        int w = pickWork();
        if (which < 3) {
            same("run(" + w + ")", real.run(w), model.run(w));
        } else if (which == 3) {
            same("drop(" + w + ")", real.drop(w), model.drop(w));
        } else if (which < 11) {
            callAct();
        } else if (which < 13) {
            same("all()", real.all(), model.all());
        } else {
            int h = pickHour();
            same("late(" + w + ", " + h + ")", real.late(w, h), model.late(w, h));
        }
        if (random.nextInt(lookOneIn) == 0) {
            lookAround();
        }
    }

    private void lookAround() {
        for (int k = -1; k < 5; k++) {
            same("moved(" + k + ") then", real.moved(k), model.moved(k));
            same("start(" + k + ") then", real.start(k), model.start(k));
            same("state(" + k + ") then", real.state(k), model.state(k));
        }
    }

    /** Mostly the event that the table has next, so that works get as far as OPEN and CLOSED. */
    private void callAct() {
        int w = pickWork();
        int event = pick(6);
        int person = pick(3);
        if (random.nextBoolean()) {
            event = new int[] {0, 0, 1, 3, random.nextBoolean() ? 4 : 5, 0}[model.state(w) + 1];
            person = new int[] {0, 1, 1, 2, 2, random.nextInt(3)}[event];
        }
        String call = "act(" + w + ", " + event + ", " + person + ")";
        same(call, real.act(w, event, person), model.act(w, event, person));
    }

    private void callAsk(int which) {
        int w = random.nextInt(6) - 1;
        int h = pickHour();
        int k = pick(random.nextBoolean() ? 5 : 230);
        if (which == 0) {
            same("may(" + w + ", " + h + ")", real.may(w, h), model.may(w, h));
        } else if (which == 1) {
            same("moved(" + k + ")", real.moved(k), model.moved(k));
        } else if (which == 2) {
            int any = pickWork();
            same("start(" + any + ")", real.start(any), model.start(any));
        } else if (which == 3) {
            same("least(" + w + ")", real.least(w), model.least(w));
        } else if (which == 4) {
            int any = pickWork();
            same("state(" + any + ")", real.state(any), model.state(any));
        } else if (which < 7) {
            int what = pick(3);
            same("notice(" + k + ", " + what + ")", real.notice(k, what), model.notice(k, what));
        } else if (which == 7) {
            int cents = random.nextBoolean() ? pick(1_000_001) : pick(100);
            same("rate(" + cents + ")", real.rate(cents), model.rate(cents));
        } else if (which == 8) {
            same("paid(" + w + ")", real.paid(w), model.paid(w));
        } else if (which == 9) {
            same("open(" + h + ")", real.open(h), model.open(h));
        } else if (which == 10) {
            same("holds()", real.holds(), model.holds());
        } else if (which == 11) {
            int what = pick(5);
            same("count(" + what + ")", real.count(what), model.count(what));
        } else {
            int any = pickWork();
            same("paid(" + any + ")", real.paid(any), model.paid(any));
            same("least(" + any + ")", real.least(any), model.least(any));
        }
    }
}
