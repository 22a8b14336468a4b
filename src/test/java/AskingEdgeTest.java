/** The boundary cases that promises 16 to 25 name, a test for each sentence. */
public final class AskingEdgeTest {
    private static final int BAD = Roads.BAD;
    private static final int LOW = Roads.LOW;
    private static final int HIGH = Roads.HIGH;

    private static final Due due = new Due();

    public static void main(String[] args) {
        startOfAWork();
        startNotPlaced();
        startNoneSuch();
        leastAsPlaced();
        leastOfAll();
        leastOfNone();
        leastNotPlaced();
        leastNoneSuch();
        actNotAsTheTableSays();
        actNoneSuch();
        stateOfAWork();
        stateNoneSuch();
        noticeOfTheFirst200();
        noticeOfNoStart();
        noticeNoneSuch();
        noticesOfOneCall();
        rateLimits();
        rateAtFirst();
        paidCutOff();
        paidOfAll();
        paidAtTheMost();
        paidNotPlaced();
        paidNoneSuch();
        openInTheSpan();
        openNoneSuch();
        holdsOfNothing();
        holdsNow();
        holdsOfWhatIsPlaced();
        holdsOfEachWork();
        countOfEach();
        countAnotherNumber();
        due.end();
    }

    private static void startOfAWork() {
        due.sentence("A work's start.");
        for (int s : new int[] {0, 1, 34, 35}) {
            ClosureHours x = Roads.road(36, 4, 1, 0);
            Roads.placeAt(x, 3, s, 1);
            due.is("start(3)", x.start(3), s);
            due.is("the others", x.count(2), 1);
        }
    }

    private static void startNotPlaced() {
        due.sentence("start: BAD: it is not placed");
        ClosureHours x = Roads.two(6);
        x.run(1);
        due.is("never placed", x.start(0), BAD);
        x.drop(1);
        due.is("dropped", x.start(1), BAD);
    }

    private static void startNoneSuch() {
        due.sentence("start: BAD: none such");
        ClosureHours x = Roads.two(6);
        x.all();
        for (int none : Roads.NO_WORKS) {
            due.is("start(" + none + ")", x.start(none), BAD);
        }
    }

    private static void leastAsPlaced() {
        due.sentence("A work's delay as it is placed");
        ClosureHours x = Roads.road(6, 2, 1, 1);
        Roads.delays(x, 0, 32, 16, 8, 4, 2, 1);
        x.run(0);
        due.is("the last start", x.least(0), 3);
        x.delay(0, 4, 100);
        due.is("the delay came later", x.least(0), 101);
        Roads.placeAt(x, 0, 0, 2);
        due.is("the first start", x.least(0), 48);
    }

    private static void leastOfAll() {
        due.sentence("work - 1: of all that are placed together");
        ClosureHours x = Roads.road(36, 4, 12, 3);
        for (int w = 0; w < 4; w++) {
            x.delay(w, 14, 1 << 4 * w);
            Roads.placeAt(x, w, 0, 15);
            due.is("the first " + (w + 1), x.least(-1), new int[] {1, 17, 273, 4369}[w]);
        }
        x.drop(2);
        due.is("all but work 2", x.least(-1), 4113);
        ClosureHours most = Roads.road(15, 4, 12, 3);
        for (int w = 0; w < 4; w++) {
            for (int h = 0; h < 15; h++) {
                most.delay(w, h, 100_000);
            }
        }
        most.all();
        due.is("the most", most.least(-1), 6_000_000);
    }

    private static void leastOfNone() {
        due.sentence("(0 of none)");
        ClosureHours x = new ClosureHours(6);
        due.is("no works", x.least(-1), 0);
        x.work(1, 0);
        Roads.delays(x, 0, 5, 5, 5, 5, 5, 5);
        due.is("none is placed", x.least(-1), 0);
        x.run(0);
        due.is("one is", x.least(-1), 5);
        x.drop(0);
        due.is("none is placed any more", x.least(-1), 0);
    }

    private static void leastNotPlaced() {
        due.sentence("least: BAD: not placed");
        ClosureHours x = Roads.two(6);
        x.run(1);
        due.is("never placed", x.least(0), BAD);
        due.is("placed, without delay", x.least(1), 0);
        x.drop(1);
        due.is("dropped", x.least(1), BAD);
    }

    private static void leastNoneSuch() {
        due.sentence("least: BAD: none such");
        ClosureHours x = Roads.two(6);
        x.all();
        for (int none : new int[] {LOW, -100, -2, 2, 3, 4, HIGH}) {
            due.is("least(" + none + ")", x.least(none), BAD);
        }
    }

    private static void actNotAsTheTableSays() {
        due.sentence("An event by somebody: the work's new state. BAD: not as the table says");
        // By state: the event and person of each step that leads on, as two digits.
        int[] steps = {0, 11, 32, 42};
        ClosureHours x = Roads.two(6);
        x.run(0);
        for (int state = 0; state < 5; state++) {
            for (int event = 0; event < 6; event++) {
                for (int person = 0; person < 3; person++) {
                    boolean on = state < 4 && steps[state] == event * 10 + person;
                    boolean back = event == 2 && person == 1 && (state == 1 || state == 2);
                    boolean reopened = event == 5 && state == 3;
                    if (!on && !back && !reopened) {
                        due.is(event + " by " + person + " in " + state, x.act(0, event, person), BAD);
                    }
                }
            }
            due.is("the state behind all these", x.state(0), state);
            if (state < 4) {
                due.is("the step on", x.act(0, steps[state] / 10, steps[state] % 10), state + 1);
            }
        }
    }

    private static void actNoneSuch() {
        due.sentence("act: BAD: none such");
        ClosureHours x = Roads.two(6);
        x.all();
        Roads.bring(x, 0, 3);
        String before = Roads.seen(x);
        for (int none : Roads.NO_WORKS) {
            due.is("work " + none, x.act(none, 0, 0), BAD);
        }
        for (int none : new int[] {LOW, -1, 6, 7, 8, 32, 64, HIGH}) {
            due.is("event " + none, x.act(0, none, 2), BAD);
        }
        for (int none : new int[] {LOW, -1, 3, 4, 32, 64, HIGH}) {
            due.is("person " + none, x.act(0, 5, none), BAD);
            due.is("person " + none, x.act(1, 0, none), BAD);
        }
        due.same("all", Roads.seen(x), before);
    }

    private static void stateOfAWork() {
        due.sentence("A work's state.");
        for (int state = 0; state <= 4; state++) {
            ClosureHours x = Roads.road(6, 4, 1, 0);
            x.all();
            Roads.bring(x, 3, state);
            due.is("state(3)", x.state(3), state);
            due.is("state(2)", x.state(2), 0);
        }
    }

    private static void stateNoneSuch() {
        due.sentence("state: BAD: none such.");
        ClosureHours x = Roads.two(6);
        for (int none : Roads.NO_WORKS) {
            due.is("state(" + none + ")", x.state(none), BAD);
        }
        due.is("not placed, but a work", x.state(1), 0);
    }

    /** So many notices, one for each run and drop of work 0: at 0, at none, at 0 and so on. */
    private static ClosureHours noticed(int many) {
        ClosureHours x = Roads.two(6);
        for (int k = 0; k < many; k++) {
            if (k % 2 == 0) {
                x.run(0);
            } else {
                x.drop(0);
            }
        }
        return x;
    }

    private static void noticeOfTheFirst200() {
        due.sentence("Notice k, of the first 200");
        ClosureHours x = noticed(199);
        due.is("199 notices", x.count(3), 199);
        due.is("the last of 199", x.notice(198, 1), 0);
        due.is("none behind it", x.notice(199, 0), BAD);
        x.run(1);
        due.is("200 notices", x.count(3), 200);
        due.is("the work of the 200th", x.notice(199, 0), 1);
        due.is("the start of the 200th", x.notice(199, 1), 0);
        x.event(1, 0, true);
        x.run(1);
        due.is("201 notices", x.count(3), 201);
        due.is("the work of the 201st", x.notice(200, 0), BAD);
        due.is("the start of the 201st", x.notice(200, 1), BAD);
        due.is("the 200th stays", x.notice(199, 0), 1);
        due.is("its start stays", x.notice(199, 1), 0);
        due.is("the first stays", x.notice(0, 1), 0);
        x.event(0, 0, true);
        x.event(1, 1, true);
        x.all();
        due.is("two more in one call", x.count(3), 203);
        due.is("the 202nd", x.notice(201, 0), BAD);
        due.same("they were moved all the same", Roads.moved(x), "0 1 -1 -1 -1");
        ClosureHours across = noticed(199);
        across.event(0, 0, true);
        across.all();
        due.is("the 200th and the 201st in one call", across.count(3), 201);
        due.is("the 200th is kept", across.notice(199, 0), 0);
        due.is("with its start", across.notice(199, 1), 1);
        due.is("the 201st is not", across.notice(200, 0), BAD);
    }

    private static void noticeOfNoStart() {
        due.sentence("0 the work, 1 the start (BAD: none)");
        ClosureHours x = noticed(4);
        int[] starts = {0, BAD, 0, BAD};
        for (int k = 0; k < 4; k++) {
            due.is("notice(" + k + ", 0)", x.notice(k, 0), 0);
            due.is("notice(" + k + ", 1)", x.notice(k, 1), starts[k]);
        }
        Roads.placeAt(x, 1, 4, 2);
        due.is("the other work", x.notice(4, 0), 1);
        due.is("the last start", x.notice(4, 1), 4);
    }

    private static void noticeNoneSuch() {
        due.sentence("notice: BAD: none such.");
        due.is("no notices", new ClosureHours(6).notice(0, 0), BAD);
        ClosureHours x = noticed(3);
        for (int what = 0; what < 2; what++) {
            for (int k : new int[] {LOW, -1, 3, 4, 199, 200, 201, HIGH}) {
                due.is("notice(" + k + ", " + what + ")", x.notice(k, what), BAD);
            }
        }
        for (int what : new int[] {LOW, -1, 2, 3, HIGH}) {
            due.is("notice(0, " + what + ")", x.notice(0, what), BAD);
        }
    }

    private static void noticesOfOneCall() {
        due.sentence("Each work whose start becomes another one gets a NOTICE (by their numbers)");
        ClosureHours x = Roads.road(6, 4, 1, 0);
        Roads.allNear(x);
        x.run(3);
        x.all();
        due.is("notices", x.count(3), 5);
        for (int w = 0; w < 4; w++) {
            due.is("the work", x.notice(w + 1, 0), w);
            due.is("its start", x.notice(w + 1, 1), w);
        }
    }

    private static void rateLimits() {
        due.sentence("in cents (0 .. 1,000,000); False: none such.");
        ClosureHours x = Roads.road(6, 1, 1, 0);
        x.delay(0, 0, 60);
        Roads.placeAt(x, 0, 0, 1);
        int[] given = {1, -1, LOW, 1_000_000, 1_000_001, HIGH, 999_999, 0, -1, 2};
        int[] then = {1, 1, 1, 1_000_000, 1_000_000, 1_000_000, 999_999, 0, 0, 2};
        for (int i = 0; i < given.length; i++) {
            due.is("rate(" + given[i] + ")", x.rate(given[i]), given[i] == then[i]);
            due.is("an hour behind rate(" + given[i] + ")", x.paid(0), then[i]);
        }
    }

    private static void rateAtFirst() {
        due.sentence("What an hour of delay costs (0 at first)");
        ClosureHours x = Roads.road(1, 1, 1, 0);
        x.delay(0, 0, 100_000);
        x.run(0);
        due.is("paid(0)", x.paid(0), 0);
        due.is("paid(-1)", x.paid(-1), 0);
    }

    private static void paidCutOff() {
        due.sentence("What a work's delay costs, by whole cents (cut off)");
        ClosureHours x = Roads.road(1, 1, 1, 0);
        x.run(0);
        x.rate(1);
        int[] minutes = {0, 1, 30, 59, 60, 61, 119, 120, 100_000};
        long[] cents = {0, 0, 0, 0, 1, 1, 1, 2, 1666};
        for (int i = 0; i < minutes.length; i++) {
            x.delay(0, 0, minutes[i]);
            due.is(minutes[i] + " minutes", x.paid(0), cents[i]);
        }
        x.delay(0, 0, 1);
        x.rate(59);
        due.is("59 sixtieths of a cent", x.paid(0), 0);
        x.rate(60);
        due.is("60 sixtieths", x.paid(0), 1);
        x.rate(1_000_000);
        due.is("16,666 cents and two thirds", x.paid(0), 16_666);
        ClosureHours span = Roads.road(2, 1, 2, 0);
        Roads.delays(span, 0, 30, 30);
        span.rate(1);
        span.run(0);
        due.is("the sum is cut off, not each hour", span.paid(0), 1);
    }

    private static void paidOfAll() {
        due.sentence("work - 1: all, each cut off by itself");
        ClosureHours x = Roads.road(1, 4, 1, 0);
        x.rate(1);
        int[] minutes = {59, 119, 61, 1};
        for (int w = 0; w < 4; w++) {
            x.delay(w, 0, minutes[w]);
        }
        due.is("none is placed", x.paid(-1), 0);
        int[] sums = {0, 1, 2, 2};
        for (int w = 0; w < 4; w++) {
            x.run(w);
            due.is("the first " + (w + 1), x.paid(-1), sums[w]);
        }
        x.drop(1);
        due.is("one was dropped", x.paid(-1), 1);
    }

    private static void paidAtTheMost() {
        due.sentence("What a work's delay costs");
        ClosureHours x = Roads.road(15, 4, 12, 3);
        x.rate(1_000_000);
        for (int w = 0; w < 4; w++) {
            for (int h = 0; h < 15; h++) {
                x.delay(w, h, 100_000);
            }
        }
        x.all();
        for (int w = 0; w < 4; w++) {
            due.is("paid(" + w + ")", x.paid(w), 25_000_000_000L);
        }
        due.is("paid(-1)", x.paid(-1), 100_000_000_000L);
    }

    private static void paidNotPlaced() {
        due.sentence("0: not placed");
        ClosureHours x = Roads.road(1, 2, 1, 0);
        x.rate(60);
        x.delay(0, 0, 7);
        due.is("never placed", x.paid(0), 0);
        x.run(0);
        due.is("placed", x.paid(0), 7);
        x.drop(0);
        due.is("dropped", x.paid(0), 0);
    }

    private static void paidNoneSuch() {
        due.sentence("0: none such");
        ClosureHours x = Roads.road(1, 2, 1, 0);
        x.rate(60);
        x.delay(0, 0, 7);
        x.delay(1, 0, 7);
        x.all();
        for (int none : new int[] {LOW, -100, -2, 2, 3, 4, HIGH}) {
            due.is("paid(" + none + ")", x.paid(none), 0);
        }
    }

    private static void openInTheSpan() {
        due.sentence("How many placed works have an hour in their span.");
        ClosureHours x = Roads.road(8, 4, 2, 1);
        int[] starts = {0, 1, 2, 4};
        String[] want = {"11100000", "12210000", "12321000", "12322110"};
        for (int w = 0; w < 4; w++) {
            Roads.placeAt(x, w, starts[w], 3);
            due.same("the first " + (w + 1), openHours(x), want[w]);
        }
        x.drop(1);
        due.same("one was dropped", openHours(x), "11212110");
        ClosureHours all = Roads.road(36, 4, 1, 0);
        for (int w = 0; w < 4; w++) {
            Roads.placeAt(all, w, 35, 1);
        }
        due.is("four in the last hour", all.open(35), 4);
        due.is("none before it", all.open(34), 0);
    }

    private static String openHours(ClosureHours x) {
        StringBuilder text = new StringBuilder();
        int hours = x.count(0);
        for (int h = 0; h < hours; h++) {
            text.append(x.open(h));
        }
        return text.toString();
    }

    private static void openNoneSuch() {
        due.sentence("open: BAD: none such.");
        ClosureHours x = Roads.road(6, 2, 6, 0);
        x.all();
        for (int none : Roads.NO_HOURS) {
            due.is("open(" + none + ")", x.open(none), BAD);
        }
        due.is("the last hour", x.open(5), 2);
    }

    private static void holdsOfNothing() {
        due.sentence("Whether all that is placed keeps all rules now: nothing is placed");
        ClosureHours x = new ClosureHours(1);
        due.yes("no works", x.holds());
        x.work(12, 3);
        due.yes("a work that has no start", x.holds());
        x.event(0, 0, true);
        due.yes("and an event", x.holds());
    }

    private static void holdsNow() {
        due.sentence("keeps all rules now (rules may have come later)");
        ClosureHours x = Roads.road(24, 2, 1, 1);
        Roads.placeAt(x, 0, 10, 2);
        Roads.placeAt(x, 1, 12, 2);
        due.yes("both", x.holds());
        x.night(1, true);
        due.no("rule 2", x.holds());
        x.night(1, false);
        x.event(1, 13, true);
        due.no("rule 3", x.holds());
        x.event(1, 13, false);
        x.event(1, 11, true);
        x.event(1, 14, true);
        due.yes("events beside it", x.holds());
        x.noise(1, 13, 13);
        due.no("rule 4", x.holds());
        x.noise(1, 12, 12);
        due.yes("noise in its set-up", x.holds());
        x.near(0, 1, true);
        x.crew(0, 1);
        due.yes("one ends, the other begins", x.holds());
        x.rest(1, 1);
        due.no("rule 6", x.holds());
        x.rest(1, 0);
        due.yes("no rest", x.holds());
        x.crew(0, 0);
        x.near(0, 1, false);
        Roads.placeAt(x, 0, 11, 2);
        due.yes("one hour in common", x.holds());
        x.near(0, 1, true);
        due.no("rule 5", x.holds());
        x.near(0, 1, false);
        due.yes("no neighbours", x.holds());
    }

    private static void holdsOfWhatIsPlaced() {
        due.sentence("Whether all that is placed keeps all rules");
        ClosureHours x = Roads.two(6);
        x.all();
        x.near(0, 1, true);
        due.no("two neighbours in the same hours", x.holds());
        x.drop(0);
        due.yes("one is not placed any more", x.holds());
        Roads.barAll(x, 0);
        due.yes("one that is not placed has no start", x.holds());
        Roads.bring(x, 1, 4);
        x.noise(1, 1, 1);
        due.no("a CLOSED one counts too", x.holds());
    }

    private static void holdsOfEachWork() {
        due.sentence("all that is placed");
        for (int w = 0; w < 4; w++) {
            ClosureHours x = Roads.road(6, 4, 1, 0);
            x.all();
            x.event(w, 0, true);
            due.no("work " + w + " alone", x.holds());
            x.run(w);
            due.yes("it was moved", x.holds());
        }
    }

    private static void countOfEach() {
        due.sentence("0 hours, 1 works, 2 placed ones, 3 notices in all.");
        ClosureHours x = Roads.road(36, 4, 1, 0);
        x.all();
        x.drop(1);
        due.is("hours", x.count(0), 36);
        due.is("works", x.count(1), 4);
        due.is("placed ones", x.count(2), 3);
        due.is("notices", x.count(3), 5);
        due.is("more notices than are kept", noticed(400).count(3), 400);
    }

    private static void countAnotherNumber() {
        due.sentence("BAD: another number.");
        ClosureHours x = Roads.two(6);
        for (int what : new int[] {LOW, -2, -1, 4, 5, HIGH}) {
            due.is("count(" + what + ")", x.count(what), BAD);
        }
    }
}
