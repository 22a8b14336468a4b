/** The boundary cases that promises 1 to 9 name, a test for each sentence. */
public final class RulesEdgeTest {
    private static final int BAD = Roads.BAD;
    private static final int NONE = Roads.NONE;
    private static final int LOW = Roads.LOW;
    private static final int HIGH = Roads.HIGH;

    private static final Due due = new Due();

    public static void main(String[] args) {
        hoursBroughtWithin();
        noWorks();
        whichWork();
        thereAreFour();
        noSuchLength();
        noSuchSetUp();
        notNearAtFirst();
        nearOrNot();
        nearNoneSuch();
        nearTheSame();
        delayLimits();
        delayNoneSuch();
        nightOrNot();
        nightNoneSuch();
        eventOrNot();
        eventNoneSuch();
        noiseNoneAtFirst();
        noiseFromAboveTo();
        noiseFromLikeTo();
        noiseNoneSuch();
        crewAtFirst();
        crewLimits();
        restAtFirst();
        restLimits();
        restOfOneCrew();
        due.end();
    }

    private static void hoursBroughtWithin() {
        due.sentence("n hours: 1 .. 36, brought within.");
        int[] given = {LOW, -36, -1, 0, 1, 2, 35, 36, 37, 100, HIGH};
        int[] want = {1, 1, 1, 1, 1, 2, 35, 36, 36, 36, 36};
        for (int i = 0; i < given.length; i++) {
            ClosureHours x = Roads.road(given[i], 1, 1, 0);
            due.is("the hours of " + given[i], x.count(0), want[i]);
            due.yes("the last one of " + given[i], x.may(0, want[i] - 1));
            due.no("the one behind it of " + given[i], x.may(0, want[i]));
        }
    }

    private static void noWorks() {
        due.sentence("No works.");
        ClosureHours x = new ClosureHours(6);
        due.is("works", x.count(1), 0);
        due.is("placed ones", x.count(2), 0);
        due.is("notices", x.count(3), 0);
        due.no("near", x.near(0, 1, true));
        due.no("delay", x.delay(0, 0, 0));
        due.no("night", x.night(0, true));
        due.no("event", x.event(0, 0, true));
        due.no("noise", x.noise(0, 0, 0));
        due.no("crew", x.crew(0, 0));
        due.is("run", x.run(0), NONE);
        due.no("drop", x.drop(0));
        due.no("may", x.may(0, 0));
        due.is("all", x.all(), BAD);
        due.is("late", x.late(0, 0), BAD);
        due.is("moved", x.moved(0), BAD);
        due.is("start", x.start(0), BAD);
        due.is("least", x.least(0), BAD);
        due.is("least of all", x.least(-1), 0);
        due.is("act", x.act(0, 0, 0), BAD);
        due.is("state", x.state(0), BAD);
        due.is("notice", x.notice(0, 0), BAD);
        due.is("paid", x.paid(0), 0);
        due.is("paid of all", x.paid(-1), 0);
        due.is("open", x.open(0), 0);
        due.yes("holds", x.holds());
    }

    private static void whichWork() {
        due.sentence("One more work: which one.");
        ClosureHours x = new ClosureHours(6);
        for (int w = 0; w < 4; w++) {
            due.no("no work " + w + " yet", x.may(w, 0));
            due.is("work", x.work(1, 0), w);
            due.is("works", x.count(1), w + 1);
            due.yes("work " + w + " is one", x.may(w, 0));
        }
    }

    private static void thereAreFour() {
        due.sentence("BAD: there are 4");
        ClosureHours x = Roads.road(6, 4, 1, 0);
        x.all();
        String before = Roads.seen(x);
        due.is("a fifth", x.work(2, 1), BAD);
        due.is("a fifth of no length", x.work(0, 0), BAD);
        due.same("all", Roads.seen(x), before);
        due.is("no work 4", x.state(4), BAD);
    }

    private static void noSuchLength() {
        due.sentence("BAD: no such length");
        ClosureHours x = new ClosureHours(36);
        for (int length : new int[] {LOW, -1, 0, 13, 14, HIGH}) {
            due.is("length " + length, x.work(length, 0), BAD);
            due.is("works", x.count(1), 0);
        }
        due.is("length 1", x.work(1, 0), 0);
        due.is("length 13 behind a work", x.work(13, 0), BAD);
        due.is("length 12", x.work(12, 0), 1);
    }

    private static void noSuchSetUp() {
        due.sentence("BAD: no such set-up");
        ClosureHours x = new ClosureHours(36);
        for (int setUp : new int[] {LOW, -1, 4, 5, HIGH}) {
            due.is("set-up " + setUp, x.work(1, setUp), BAD);
            due.is("works", x.count(1), 0);
        }
        due.is("set-up 0", x.work(1, 0), 0);
        due.is("set-up 4 behind a work", x.work(1, 4), BAD);
        due.is("set-up 3", x.work(1, 3), 1);
    }

    private static void notNearAtFirst() {
        due.sentence("Two works are near, or not (not at first).");
        ClosureHours x = Roads.road(6, 4, 6, 0);
        due.is("all", x.all(), 0);
        due.same("all in the same hours", Roads.starts(x), "0 0 0 0");
        due.yes("holds", x.holds());
    }

    private static void nearOrNot() {
        due.sentence("Two works are near, or not");
        for (int a = 0; a < 4; a++) {
            for (int b = 0; b < 4; b++) {
                if (a != b) {
                    ClosureHours x = Roads.road(6, 4, 6, 0);
                    x.all();
                    due.yes("near", x.near(a, b, true));
                    due.no(a + " near " + b, x.holds());
                    for (int w = 0; w < 4; w++) {
                        due.is("work " + w, x.may(w, 0), w != a && w != b);
                    }
                    due.yes("near once more", x.near(a, b, true));
                    due.yes("not near, told the other way", x.near(b, a, false));
                    due.yes(a + " not near " + b, x.holds());
                    due.yes("not near once more", x.near(a, b, false));
                    due.yes(a + " not near " + b + " still", x.holds());
                }
            }
        }
    }

    private static void nearNoneSuch() {
        due.sentence("near: False: none such");
        ClosureHours x = Roads.two(6);
        x.all();
        for (int none : Roads.NO_WORKS) {
            due.no("near(0, " + none + ")", x.near(0, none, true));
            due.no("near(" + none + ", 1)", x.near(none, 1, true));
            due.no("near(" + none + ", " + none + ")", x.near(none, none, true));
        }
        x.work(2, 0);
        x.run(2);
        due.yes("work 2 came later and is near nothing", x.holds());
    }

    private static void nearTheSame() {
        due.sentence("near: False: the same");
        ClosureHours x = Roads.two(6);
        x.all();
        due.no("near(0, 0)", x.near(0, 0, true));
        due.no("near(1, 1)", x.near(1, 1, false));
        due.yes("holds", x.holds());
        due.yes("may", x.may(0, 1));
        due.is("all", x.all(), 0);
    }

    private static void delayLimits() {
        due.sentence("A work's delay in an hour, 0 .. 100,000.");
        ClosureHours x = Roads.road(6, 2, 1, 0);
        x.all();
        int[] given = {100_000, 100_001, HIGH, 99_999, -1, LOW, 0, 100_001, 1};
        int[] then = {100_000, 100_000, 100_000, 99_999, 99_999, 99_999, 0, 0, 1};
        for (int i = 0; i < given.length; i++) {
            due.is("delay " + given[i], x.delay(0, 0, given[i]), given[i] == then[i]);
            due.is("the delay behind " + given[i], x.least(0), then[i]);
            due.is("the other's", x.least(1), 0);
        }
    }

    private static void delayNoneSuch() {
        due.sentence("delay: False: none such");
        ClosureHours x = Roads.road(6, 2, 6, 0);
        x.all();
        for (int none : Roads.NO_WORKS) {
            due.no("work " + none, x.delay(none, 0, 5));
        }
        for (int none : Roads.NO_HOURS) {
            due.no("hour " + none, x.delay(0, none, 5));
        }
        x.work(6, 0);
        x.run(2);
        due.is("no delay came of it", x.least(-1), 0);
        due.yes("the last hour", x.delay(0, 5, 5));
        due.is("its delay", x.least(-1), 5);
    }

    private static void nightOrNot() {
        due.sentence("Whether a work is one of the night.");
        ClosureHours x = Roads.road(24, 2, 1, 0);
        due.yes("none at first", x.may(0, 12));
        due.yes("night", x.night(0, true));
        due.yes("night once more", x.night(0, true));
        due.no("by day", x.may(0, 12));
        due.yes("the other by day", x.may(1, 12));
        due.yes("night no more", x.night(0, false));
        due.yes("by day again", x.may(0, 12));
    }

    private static void nightNoneSuch() {
        due.sentence("night: False: none such");
        ClosureHours x = Roads.road(24, 2, 1, 0);
        for (int none : Roads.NO_WORKS) {
            due.no("work " + none, x.night(none, true));
        }
        x.work(1, 0);
        for (int w = 0; w < 3; w++) {
            due.yes("work " + w + " by day", x.may(w, 12));
        }
    }

    private static void eventOrNot() {
        due.sentence("An hour is an event for a work, or not.");
        ClosureHours x = Roads.road(36, 2, 1, 0);
        for (int h : new int[] {0, 1, 31, 32, 35}) {
            due.yes("no event at first", x.may(0, h));
            due.yes("event", x.event(0, h, true));
            due.yes("event once more", x.event(0, h, true));
            due.same("hour " + h + " alone", Roads.may(x, 0), "1".repeat(h) + "0" + "1".repeat(35 - h));
            due.yes("not for the other", x.may(1, h));
            due.yes("no event", x.event(0, h, false));
            due.yes("hour " + h + " again", x.may(0, h));
        }
    }

    private static void eventNoneSuch() {
        due.sentence("event: False: none such");
        ClosureHours x = Roads.road(6, 2, 1, 0);
        for (int none : Roads.NO_WORKS) {
            due.no("work " + none, x.event(none, 0, true));
        }
        for (int none : Roads.NO_HOURS) {
            due.no("hour " + none, x.event(0, none, true));
        }
        x.work(1, 0);
        for (int w = 0; w < 3; w++) {
            due.same("work " + w, Roads.may(x, w), "111111");
        }
    }

    private static void noiseNoneAtFirst() {
        due.sentence("none (at first)");
        ClosureHours x = Roads.road(6, 4, 1, 0);
        for (int w = 0; w < 4; w++) {
            due.same("work " + w, Roads.may(x, w), "111111");
        }
    }

    private static void noiseFromAboveTo() {
        due.sentence("A work's noise hours; from above to: none");
        ClosureHours x = Roads.road(6, 2, 1, 0);
        due.yes("0 .. 5", x.noise(0, 0, 5));
        due.same("noise in all", Roads.may(x, 0), "000000");
        due.yes("from one above to", x.noise(0, 3, 2));
        due.same("none", Roads.may(x, 0), "111111");
        due.yes("2 .. 4", x.noise(0, 2, 4));
        due.same("2 .. 4", Roads.may(x, 0), "110001");
        due.yes("from the last, to the first", x.noise(0, 5, 0));
        due.same("none again", Roads.may(x, 0), "111111");
        due.yes("from above to, none before", x.noise(1, 5, 4));
        due.same("none still", Roads.may(x, 1), "111111");
    }

    private static void noiseFromLikeTo() {
        due.sentence("A work's noise hours, from .. to");
        ClosureHours x = Roads.road(36, 1, 1, 0);
        for (int h : new int[] {0, 17, 31, 32, 35}) {
            due.yes("noise", x.noise(0, h, h));
            due.same("hour " + h + " alone", Roads.may(x, 0), "1".repeat(h) + "0" + "1".repeat(35 - h));
        }
        due.yes("all hours", x.noise(0, 0, 35));
        due.same("all hours", Roads.may(x, 0), "0".repeat(36));
        due.yes("all but the first and the last", x.noise(0, 1, 34));
        due.same("all but two", Roads.may(x, 0), "1" + "0".repeat(34) + "1");
    }

    private static void noiseNoneSuch() {
        due.sentence("False: none such work, hours.");
        ClosureHours x = Roads.road(6, 2, 1, 0);
        x.noise(0, 1, 2);
        for (int none : Roads.NO_WORKS) {
            due.no("work " + none, x.noise(none, 0, 5));
        }
        for (int none : Roads.NO_HOURS) {
            due.no("from " + none, x.noise(0, none, 5));
            due.no("to " + none, x.noise(0, 0, none));
            due.no("from and to " + none, x.noise(0, none, none));
        }
        x.work(1, 0);
        due.same("the noise stays", Roads.may(x, 0), "100111");
        due.same("the other has none", Roads.may(x, 1), "111111");
        due.same("nor has a later one", Roads.may(x, 2), "111111");
    }

    private static void crewAtFirst() {
        due.sentence("at first crew 0, 1, 2, 3 as its number");
        for (int w = 0; w < 4; w++) {
            for (int v = 0; v < 4; v++) {
                ClosureHours x = Roads.road(6, 4, 6, 0);
                x.all();
                due.yes("each of its own", x.holds());
                due.yes("crew(" + w + ", " + v + ")", x.crew(w, v));
                for (int u = 0; u < 4; u++) {
                    due.is("work " + u, x.may(u, 0), w == v || u != w && u != v);
                }
            }
        }
    }

    private static void crewLimits() {
        due.sentence("A work is of a crew (0 .. 3); False: none such.");
        ClosureHours x = Roads.road(6, 2, 6, 0);
        x.all();
        x.crew(0, 3);
        for (int none : Roads.NO_CREWS) {
            due.no("crew " + none, x.crew(0, none));
            due.no("crew " + none, x.crew(1, none));
        }
        for (int none : Roads.NO_WORKS) {
            due.no("work " + none, x.crew(none, 3));
        }
        due.yes("no work came to another", x.holds());
        x.work(6, 0);
        due.yes("work 2 is not of crew 3", x.may(2, 0));
        due.yes("crew 3", x.crew(1, 3));
        due.no("both are of crew 3", x.holds());
        due.no("refused", x.crew(1, 4));
        due.no("both are so still", x.holds());
        due.yes("crew 0", x.crew(1, 0));
        due.yes("one is of crew 0", x.holds());
    }

    private static void restAtFirst() {
        due.sentence("A crew's rest (0 at first)");
        for (int crew = 0; crew < 4; crew++) {
            ClosureHours x = Roads.road(4, 2, 2, 0);
            x.crew(0, crew);
            x.crew(1, crew);
            due.is("all, crew " + crew, x.all(), 0);
            due.same("no hour between", Roads.starts(x), "0 2");
        }
    }

    private static void restLimits() {
        due.sentence("A crew's rest, 0 .. 36; False: none such.");
        ClosureHours x = Roads.road(36, 2, 1, 0);
        x.crew(1, 0);
        x.run(0);
        due.yes("rest 4", x.rest(0, 4));
        for (int none : new int[] {LOW, -1, 37, 38, HIGH}) {
            due.no("rest " + none, x.rest(0, none));
            due.no("rest " + none + ", hour 4", x.may(1, 4));
            due.yes("rest " + none + ", hour 5", x.may(1, 5));
        }
        for (int none : Roads.NO_CREWS) {
            due.no("crew " + none, x.rest(none, 0));
        }
        due.no("4 hours still", x.may(1, 4));
        due.yes("rest 36", x.rest(0, 36));
        due.no("36 hours", x.may(1, 35));
        due.yes("rest 34", x.rest(0, 34));
        due.yes("34 hours", x.may(1, 35));
        due.yes("rest 0", x.rest(0, 0));
        due.yes("0 hours", x.may(1, 1));
    }

    private static void restOfOneCrew() {
        due.sentence("A crew's rest");
        for (int crew = 0; crew < 4; crew++) {
            ClosureHours x = Roads.road(12, 2, 1, 0);
            x.run(0);
            for (int c = 0; c < 4; c++) {
                due.yes("rest(" + c + ")", x.rest(c, c + 1));
            }
            x.crew(0, crew);
            x.crew(1, crew);
            due.is("the first hour behind the rest of crew " + crew, x.run(1), crew + 2);
        }
        ClosureHours later = new ClosureHours(12);
        due.yes("a crew's rest before there are works", later.rest(2, 3));
        later.work(1, 0);
        later.work(1, 0);
        later.crew(0, 2);
        later.crew(1, 2);
        due.is("all", later.all(), 0);
        due.same("three hours between", Roads.starts(later), "0 4");
    }
}
