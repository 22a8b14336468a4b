/** Each promise of the document by itself: ordinary inputs, the edges it names, wrong inputs. */
public final class PromiseTest {
    private static final int BAD = Roads.BAD;
    private static final int NONE = Roads.NONE;
    private static final int LOW = Roads.LOW;
    private static final int HIGH = Roads.HIGH;
    private static final int[] NO_WORKS = Roads.NO_WORKS;

    private static final Due due = new Due();

    public static void main(String[] args) {
        newObject();
        work();
        near();
        delay();
        night();
        event();
        noise();
        crew();
        rest();
        runPlacesBest();
        runTellsRule();
        runRefuses();
        drop();
        may();
        allPlacesBest();
        allBreaksTies();
        allAtTheLastHour();
        allKeepsFixed();
        allRefuses();
        lateMovesFewest();
        lateBreaksTies();
        lateRefuses();
        moved();
        start();
        least();
        actByTheTable();
        actElsewhere();
        state();
        notice();
        noticesBeyond();
        rate();
        paid();
        open();
        holds();
        count();
        due.end();
    }

    private static void delays(ClosureHours x, int work, int... minutes) {
        for (int h = 0; h < minutes.length; h++) {
            due.yes("delay(" + work + ", " + h + ", " + minutes[h] + ")", x.delay(work, h, minutes[h]));
        }
    }

    /** Brings a placed work that is PLANNED to a state. */
    private static void bring(ClosureHours x, int work, int state) {
        int[] events = {0, 1, 3, 4};
        int[] persons = {0, 1, 2, 2};
        for (int i = 0; i < state; i++) {
            due.is("act on the way to state " + state, x.act(work, events[i], persons[i]), i + 1);
        }
    }

    private static void starts(String when, ClosureHours x, int... want) {
        for (int w = 0; w < want.length; w++) {
            due.is(when + ": start(" + w + ")", x.start(w), want[w]);
        }
    }

    private static void movedAre(String when, ClosureHours x, int... want) {
        for (int k = 0; k < want.length; k++) {
            due.is(when + ": moved(" + k + ")", x.moved(k), want[k]);
        }
        due.is(when + ": moved(" + want.length + ")", x.moved(want.length), BAD);
    }

    private static void newObject() {
        int[] given = {1, 2, 24, 35, 36, 37, 0, -1, LOW, HIGH};
        int[] hours = {1, 2, 24, 35, 36, 36, 1, 1, 1, 36};
        for (int i = 0; i < given.length; i++) {
            ClosureHours x = new ClosureHours(given[i]);
            due.is("hours of " + given[i], x.count(0), hours[i]);
            due.is("works of a new object", x.count(1), 0);
            due.is("placed ones of a new object", x.count(2), 0);
            due.is("notices of a new object", x.count(3), 0);
            due.is("the last hour", x.open(hours[i] - 1), 0);
            due.is("the hour behind it", x.open(hours[i]), BAD);
        }
        ClosureHours x = new ClosureHours(5);
        x.work(1, 0);
        due.is("another object's works", new ClosureHours(5).count(1), 0);
    }

    private static void work() {
        ClosureHours x = new ClosureHours(20);
        int[] length = {0, -1, 13, 1, 1, 0, LOW, HIGH, 5, 5};
        int[] setUp = {0, 0, 0, 4, -1, -1, 0, 0, LOW, HIGH};
        for (int i = 0; i < length.length; i++) {
            due.is("work(" + length[i] + ", " + setUp[i] + ")", x.work(length[i], setUp[i]), BAD);
        }
        due.is("works after wrong ones", x.count(1), 0);
        due.is("work(1, 0)", x.work(1, 0), 0);
        due.is("work(12, 3)", x.work(12, 3), 1);
        due.is("work(12, 0)", x.work(12, 0), 2);
        due.is("work(1, 3)", x.work(1, 3), 3);
        due.is("a fifth work", x.work(1, 0), BAD);
        due.is("works", x.count(1), 4);
        due.yes("the span of 15 ends with the hours", x.may(1, 5));
        due.no("the span of 15 ends behind the hours", x.may(1, 6));
        due.yes("the span of 1", x.may(0, 19));
        due.yes("the span of 4", x.may(3, 16));
        due.no("the span of 4 ends behind the hours", x.may(3, 17));
        due.is("a new work's state", x.state(3), 0);
        due.is("a new work's start", x.start(3), BAD);
    }

    private static void near() {
        ClosureHours x = Roads.two(8);
        for (int none : NO_WORKS) {
            due.no("near(0, none)", x.near(0, none, true));
            due.no("near(none, 1)", x.near(none, 1, true));
        }
        due.no("near(1, 1)", x.near(1, 1, true));
        x.delay(0, 0, 5);
        due.is("run(0)", x.run(0), 1);
        due.yes("not near at first", x.may(1, 1));
        due.yes("near(0, 1, true)", x.near(0, 1, true));
        due.no("the same hours", x.may(1, 1));
        due.no("its last hour is the other's first", x.may(1, 0));
        due.no("its first hour is the other's last", x.may(1, 2));
        due.yes("behind it at once", x.may(1, 3));
        due.is("run(1)", x.run(1), 3);
        due.no("both ways", x.may(0, 2));
        due.yes("near again", x.near(1, 0, true));
        due.yes("near(1, 0, false)", x.near(1, 0, false));
        due.yes("near no more", x.may(0, 2));
        due.yes("near no more, the other way", x.may(1, 1));
    }

    private static void delay() {
        ClosureHours x = Roads.two(4);
        for (int none : NO_WORKS) {
            due.no("delay(none)", x.delay(none, 0, 1));
        }
        due.no("hour -1", x.delay(0, -1, 1));
        due.no("hour 4", x.delay(0, 4, 1));
        due.no("hour high", x.delay(0, HIGH, 1));
        due.no("minutes -1", x.delay(0, 0, -1));
        due.no("minutes 100001", x.delay(0, 0, 100_001));
        x.run(0);
        due.is("0 at first", x.least(0), 0);
        due.yes("minutes 100000", x.delay(0, 0, 100_000));
        due.yes("minutes 7", x.delay(0, 1, 7));
        due.yes("another work's", x.delay(1, 1, 50));
        due.is("the sum over the span", x.least(0), 100_007);
        due.yes("minutes 0", x.delay(0, 0, 0));
        due.is("set anew", x.least(0), 7);
        due.no("refused", x.delay(0, 1, 100_001));
        due.is("stays when refused", x.least(0), 7);
    }

    private static void night() {
        ClosureHours x = new ClosureHours(36);
        x.work(1, 0);
        x.work(2, 2);
        for (int none : NO_WORKS) {
            due.no("night(none)", x.night(none, true));
        }
        due.yes("no night work at first", x.may(0, 12));
        due.yes("night(0)", x.night(0, true));
        for (int h = 0; h < 36; h++) {
            boolean isNight = h <= 4 || h >= 20 && h <= 28;
            due.is("the night has hour " + h, x.may(0, h) ? 1 : 0, isNight ? 1 : 0);
        }
        due.yes("night(1)", x.night(1, true));
        due.yes("a span in the night", x.may(1, 1));
        due.no("its end is by day", x.may(1, 2));
        due.no("its set-up is by day", x.may(1, 19));
        due.yes("over midnight", x.may(1, 22));
        due.yes("to the end of the second night", x.may(1, 25));
        due.no("beyond it", x.may(1, 26));
        due.yes("night(1, false)", x.night(1, false));
        due.yes("by day again", x.may(1, 10));
        due.no("the other stays of the night", x.may(0, 10));
    }

    private static void event() {
        ClosureHours x = new ClosureHours(8);
        x.work(2, 1);
        x.work(2, 1);
        for (int none : NO_WORKS) {
            due.no("event(none)", x.event(none, 0, true));
        }
        due.no("hour -1", x.event(0, -1, true));
        due.no("hour 8", x.event(0, 8, true));
        due.no("hour low", x.event(0, LOW, true));
        due.yes("event(0, 3)", x.event(0, 3, true));
        due.yes("before it", x.may(0, 0));
        due.no("its last hour", x.may(0, 1));
        due.no("its middle hour", x.may(0, 2));
        due.no("its set-up", x.may(0, 3));
        due.yes("behind it", x.may(0, 4));
        due.yes("for one work alone", x.may(1, 2));
        due.yes("event(0, 3, false)", x.event(0, 3, false));
        due.yes("no event any more", x.may(0, 2));
        due.yes("no event anyway", x.event(0, 3, false));
        due.yes("the last hour", x.event(0, 7, true));
        due.no("an event in the last hour", x.may(0, 5));
        due.yes("before the last hour", x.may(0, 4));
    }

    private static void noise() {
        ClosureHours x = new ClosureHours(10);
        x.work(2, 2);
        x.work(1, 0);
        for (int none : NO_WORKS) {
            due.no("noise(none)", x.noise(none, 0, 0));
        }
        due.no("from -1", x.noise(0, -1, 3));
        due.no("to 10", x.noise(0, 3, 10));
        due.no("from 10, above to", x.noise(0, 10, 3));
        due.no("to -1, below from", x.noise(0, 3, -1));
        due.yes("none at first", x.may(0, 3));
        due.yes("noise(0, 4, 5)", x.noise(0, 4, 5));
        due.yes("its length ends before", x.may(0, 0));
        due.no("its length ends in it", x.may(0, 1));
        due.no("its length is in it", x.may(0, 2));
        due.no("its length begins in it", x.may(0, 3));
        due.yes("its set-up alone is in it", x.may(0, 4));
        due.yes("for one work alone", x.may(1, 4));
        due.yes("other hours instead", x.noise(0, 8, 9));
        due.yes("the old ones are no more", x.may(0, 2));
        due.no("the new ones are", x.may(0, 6));
        due.no("refused", x.noise(0, 0, 10));
        due.no("stays when refused", x.may(0, 6));
        due.yes("from above to", x.noise(0, 5, 4));
        due.yes("none again", x.may(0, 6));
        due.yes("one hour", x.noise(1, 9, 9));
        due.no("in that hour", x.may(1, 9));
        due.yes("before that hour", x.may(1, 8));
        due.yes("all hours", x.noise(1, 0, 9));
        due.is("all are barred", x.run(1), -5);
    }

    private static void crew() {
        ClosureHours x = Roads.two(6);
        for (int none : NO_WORKS) {
            due.no("crew(none)", x.crew(none, 0));
        }
        due.no("crew -1", x.crew(0, -1));
        due.no("crew 4", x.crew(0, 4));
        due.no("crew high", x.crew(0, HIGH));
        x.work(1, 0);
        x.work(1, 0);
        for (int w = 0; w < 4; w++) {
            x.run(w);
        }
        starts("crews of their own at first", x, 0, 0, 0, 0);
        for (int w = 0; w < 4; w++) {
            due.yes("holds with its own crew", x.crew(w, w) && x.holds());
        }
        for (int w = 1; w < 4; w++) {
            due.yes("crew(" + w + ", 0)", x.crew(w, 0));
            due.no("like hours of one crew, work " + w, x.holds());
            due.yes("crew(" + w + ", " + w + ")", x.crew(w, w));
            due.yes("another crew, work " + w, x.holds());
        }
        due.yes("crew(3, 3)", x.crew(3, 3));
        due.yes("crew(2, 3)", x.crew(2, 3));
        due.no("crew 3 has both", x.may(2, 0));
        due.yes("behind it at once, without rest", x.may(2, 1));
    }

    private static void rest() {
        ClosureHours x = new ClosureHours(36);
        x.work(2, 0);
        x.work(1, 1);
        for (int none : new int[] {LOW, -1, 4, HIGH}) {
            due.no("rest of no crew", x.rest(none, 1));
        }
        due.no("rest -1", x.rest(0, -1));
        due.no("rest 37", x.rest(0, 37));
        due.no("rest low", x.rest(0, LOW));
        for (int h = 0; h < 10; h++) {
            x.delay(0, h, 1);
        }
        due.is("run(0)", x.run(0), 10);
        x.crew(0, 3);
        x.crew(1, 3);
        due.yes("0 at first, before", x.may(1, 8));
        due.no("one hour in common, before", x.may(1, 9));
        due.yes("0 at first, behind", x.may(1, 12));
        due.no("one hour in common, behind", x.may(1, 11));
        due.yes("rest(3, 2)", x.rest(3, 2));
        due.yes("two hours before", x.may(1, 6));
        due.no("one hour before", x.may(1, 7));
        due.yes("two hours behind", x.may(1, 14));
        due.no("one hour behind", x.may(1, 13));
        due.yes("another crew's rest", x.rest(2, 30));
        due.yes("does not matter", x.may(1, 14));
        due.yes("rest(3, 22)", x.rest(3, 22));
        due.is("22 hours behind: the last start", x.run(1), 34);
        due.no("refused", x.rest(3, 37));
        due.no("stays when refused", x.may(1, 33));
        due.yes("rest(3, 36)", x.rest(3, 36));
        due.is("none has 36 hours between", x.run(1), -7);
        due.yes("rest(3, 0)", x.rest(3, 0));
        due.yes("no rest again", x.may(1, 12));
    }

    private static void runPlacesBest() {
        ClosureHours x = Roads.two(6);
        delays(x, 0, 9, 4, 3, 4, 3, 9);
        due.is("the least, of like ones the earliest", x.run(0), 1);
        due.is("its delay", x.least(0), 7);
        x.delay(0, 4, 2);
        due.is("less delay now", x.run(0), 3);
        due.is("with no neighbour", x.run(1), 0);
        x.near(0, 1, true);
        x.event(1, 0, true);
        due.is("with its neighbour as placed", x.run(1), 1);
        x.event(1, 1, true);
        due.is("no start is left", x.run(1), -6);
        due.is("it stays", x.start(1), 1);
        due.is("its own old place bars nothing", x.run(0), 3);
    }

    private static void runTellsRule() {
        ClosureHours x = new ClosureHours(23);
        x.work(12, 3);
        x.work(1, 0);
        ClosureHours tight = new ClosureHours(14);
        tight.work(12, 3);
        due.is("rule 1", tight.run(0), -2);
        x.night(0, true);
        due.is("rule 2", x.run(0), -3);
        x.event(0, 4, true);
        due.is("rule 2 comes before 3 at every start", x.run(0), -3);
        x.night(0, false);
        due.is("starts behind the event are left", x.run(0), 5);
        for (int h = 0; h < 23; h++) {
            x.event(0, h, true);
        }
        due.is("rule 3", x.run(0), -4);
        x.noise(1, 0, 22);
        due.is("rule 4", x.run(1), -5);
        x.night(1, true);
        due.is("rule 2 for some, 4 for others", x.run(1), -5);
        x.night(1, false);
        x.noise(1, 0, 5);
        x.near(0, 1, true);
        for (int h = 20; h < 23; h++) {
            x.event(1, h, true);
        }
        due.is("rules 3, 4 and 5", x.run(1), -6);
        x.crew(1, 0);
        due.is("rule 5 comes before 6", x.run(1), -6);
        x.near(0, 1, false);
        due.is("rules 3, 4 and 6", x.run(1), -7);
        due.is("it was never placed", x.start(1), BAD);
        due.is("and has no notice", x.count(3), 1);
    }

    private static void runRefuses() {
        ClosureHours x = Roads.two(6);
        for (int none : NO_WORKS) {
            due.is("run(none)", x.run(none), NONE);
        }
        x.run(0);
        bring(x, 0, 3);
        x.delay(0, 0, 9);
        due.is("run of an OPEN work", x.run(0), NONE);
        due.is("state stays", x.state(0), 3);
        due.is("to CLOSED", x.act(0, 4, 2), 4);
        due.is("run of a CLOSED work", x.run(0), NONE);
        due.is("start stays", x.start(0), 0);
        x.run(1);
        bring(x, 1, 2);
        due.is("run to the same start", x.run(1), 0);
        due.is("keeps its state", x.state(1), 2);
        due.is("and brings no notice", x.count(3), 2);
        x.event(1, 0, true);
        due.is("run of an APPROVED work", x.run(1), 1);
        due.is("is PLANNED", x.state(1), 0);
        bring(x, 1, 1);
        for (int h = 0; h < 6; h++) {
            x.event(1, h, true);
        }
        due.is("run finds none", x.run(1), -4);
        due.is("an ASKED work stays so", x.state(1), 1);
        due.is("where it is", x.start(1), 1);
    }

    private static void drop() {
        ClosureHours x = Roads.two(6);
        for (int none : NO_WORKS) {
            due.no("drop(none)", x.drop(none));
        }
        due.no("not placed", x.drop(0));
        x.run(0);
        bring(x, 0, 2);
        due.yes("drop(0)", x.drop(0));
        due.is("no start", x.start(0), BAD);
        due.is("PLANNED again", x.state(0), 0);
        due.is("a notice", x.notice(1, 0), 0);
        due.is("of none", x.notice(1, 1), BAD);
        due.no("not placed any more", x.drop(0));
        x.run(0);
        bring(x, 0, 3);
        due.no("OPEN", x.drop(0));
        x.act(0, 4, 2);
        due.no("CLOSED", x.drop(0));
        due.is("it stays", x.start(0), 0);
        due.is("so does its state", x.state(0), 4);
        x.near(0, 1, true);
        x.run(1);
        due.yes("drop(1)", x.drop(1));
        due.is("another stays placed", x.count(2), 1);
    }

    private static void may() {
        ClosureHours x = Roads.two(6);
        for (int none : NO_WORKS) {
            due.no("may(none)", x.may(none, 0));
        }
        for (int hour : new int[] {LOW, -1, 6, HIGH}) {
            due.no("may at no hour", x.may(0, hour));
        }
        due.yes("the last start", x.may(0, 4));
        due.no("ends behind the hours", x.may(0, 5));
        x.near(0, 1, true);
        x.run(0);
        due.yes("its own place", x.may(0, 0));
        due.yes("beside its own place", x.may(0, 1));
        due.no("a neighbour's place", x.may(1, 1));
        bring(x, 0, 4);
        due.yes("also of a CLOSED work", x.may(0, 2));
        x.rest(0, 2);
        x.crew(1, 0);
        due.no("its crew rests", x.may(1, 3));
        due.yes("its crew has rested", x.may(1, 4));
        due.is("it places nothing", x.count(2), 1);
    }

    private static void allPlacesBest() {
        ClosureHours x = Roads.two(4);
        x.near(0, 1, true);
        delays(x, 0, 1, 1, 3, 3);
        delays(x, 1, 0, 0, 9, 9);
        due.is("the least together", x.all(), 6);
        starts("the least together", x, 2, 0);
        x.near(0, 1, false);
        due.is("each at its best", x.all(), 2);
        starts("each at its best", x, 0, 0);
        x.near(0, 1, true);
        delays(x, 0, 1, 1, 1, 1);
        delays(x, 1, 2, 2, 2, 2);
        due.is("like ones", x.all(), 6);
        starts("the first work begins earlier", x, 0, 2);

        ClosureHours y = new ClosureHours(5);
        y.work(1, 0);
        y.work(1, 0);
        y.work(1, 0);
        y.near(1, 2, true);
        y.delay(1, 0, 1);
        y.delay(2, 0, 1);
        due.is("all at once", y.all(), 0);
        starts("then the second work", y, 0, 1, 2);
        y.rest(0, 1);
        for (int w = 0; w < 3; w++) {
            y.crew(w, 0);
        }
        due.is("with rest between", y.all(), 0);
        starts("with rest between", y, 0, 2, 4);
        due.is("work 3", y.work(5, 0), 3);
        due.is("places what was not placed", y.all(), 0);
        starts("places what was not placed", y, 0, 2, 4, 0);
    }

    private static void allBreaksTies() {
        for (int w = 0; w < 3; w++) {
            ClosureHours x = new ClosureHours(8);
            for (int i = 0; i < 4; i++) {
                x.work(1, 0);
            }
            Roads.only(x, w, 1, 2);
            Roads.only(x, w + 1, 1, 5);
            x.near(w, w + 1, true);
            due.is("like plans", x.all(), 0);
            due.is("work " + w + " begins first, though the next begins late", x.start(w), 1);
            due.is("so the next is there", x.start(w + 1), 5);
        }
    }

    private static void allAtTheLastHour() {
        ClosureHours x = new ClosureHours(36);
        for (int w = 0; w < 4; w++) {
            x.work(1, 0);
            Roads.only(x, w, 35);
        }
        due.is("all in the last hour, without delay", x.all(), 0);
        starts("all in the last hour", x, 35, 35, 35, 35);
        due.is("four are placed", x.count(2), 4);
        due.is("late, in the last hour", x.late(3, 35), 0);
        x.near(0, 1, true);
        due.is("two can't share it", x.all(), BAD);
        Roads.only(x, 0, 0, 35);
        due.is("the other hour, without delay", x.all(), 0);
        starts("the other hour", x, 0, 35, 35, 35);
    }

    private static void allKeepsFixed() {
        ClosureHours x = Roads.two(6);
        x.run(0);
        bring(x, 0, 3);
        delays(x, 0, 10, 10, 0, 0, 0, 0);
        x.near(0, 1, true);
        due.is("the delay of an OPEN one counts", x.all(), 20);
        starts("an OPEN one stays", x, 0, 2);
        due.is("and stays OPEN", x.state(0), 3);
        x.act(0, 4, 2);
        bring(x, 1, 2);
        due.is("the same again", x.all(), 20);
        due.is("what stays keeps its state", x.state(1), 2);
        x.event(1, 2, true);
        due.is("the other is moved", x.all(), 20);
        starts("the other is moved", x, 0, 3);
        due.is("and PLANNED", x.state(1), 0);
        x.event(0, 1, true);
        due.is("a CLOSED one breaks a rule", x.all(), BAD);
        starts("all stays", x, 0, 3);
        x.event(0, 1, false);
        x.event(1, 3, true);
        x.rest(0, 3);
        x.crew(1, 0);
        due.is("no room behind a CLOSED one", x.all(), BAD);
        x.rest(0, 2);
        due.is("just room behind it", x.all(), 20);
        starts("just room behind it", x, 0, 4);
    }

    private static void allRefuses() {
        due.is("no works", new ClosureHours(5).all(), BAD);
        ClosureHours x = Roads.two(3);
        x.run(0);
        x.near(0, 1, true);
        bring(x, 0, 1);
        due.is("no room for both", x.all(), BAD);
        starts("all stays", x, 0, BAD);
        due.is("states too", x.state(0), 1);
        due.is("notices too", x.count(3), 1);
        movedAre("the last that was not refused", x, 0);
        ClosureHours most = new ClosureHours(36);
        for (int w = 0; w < 4; w++) {
            most.work(12, 3);
            for (int h = 0; h < 36; h++) {
                most.delay(w, h, 100_000);
            }
        }
        due.is("the greatest delay", most.all(), 6_000_000);
        starts("the first of all", most, 0, 0, 0, 0);
    }

    private static void lateMovesFewest() {
        ClosureHours x = new ClosureHours(10);
        x.work(2, 0);
        x.work(2, 0);
        x.work(2, 0);
        x.near(0, 1, true);
        x.near(0, 2, true);
        x.near(1, 2, true);
        due.is("all()", x.all(), 0);
        starts("all()", x, 0, 2, 4);
        for (int h = 6; h < 10; h++) {
            x.delay(0, h, 1000);
        }
        bring(x, 1, 1);
        due.is("no other is moved, whatever the delay", x.late(0, 1), 0);
        starts("no other is moved", x, 6, 2, 4);
        movedAre("this one alone", x, 0);
        due.is("what stays keeps its state", x.state(1), 1);
        x.event(0, 7, true);
        x.event(0, 8, true);
        due.is("one other is moved", x.late(0, 3), 1);
        starts("the earlier work stays, the later one makes room", x, 4, 2, 0);
        movedAre("both", x, 0, 2);
        due.is("it need not move", x.late(0, 4), 0);
        starts("nothing moves", x, 4, 2, 0);
        movedAre("nothing moves", x);
        x.event(2, 0, true);
        due.is("what breaks a rule is moved too", x.late(0, 0), 1);
        starts("and this one may begin earlier", x, 0, 2, 4);
    }

    private static void lateBreaksTies() {
        ClosureHours x = Roads.two(6);
        x.near(0, 1, true);
        x.all();
        starts("all()", x, 0, 2);
        delays(x, 0, 0, 0, 5, 5, 4, 4);
        due.is("the least delay of those", x.late(0, 1), 0);
        starts("the least delay of those", x, 4, 2);
        delays(x, 0, 0, 0, 1, 0, 0, 0);
        x.event(1, 2, true);
        due.is("the other must move", x.late(0, 2), 1);
        starts("this one's delay first, then the earliest", x, 3, 0);
        bring(x, 1, 3);
        due.is("beside an OPEN one", x.late(0, 4), 0);
        starts("an OPEN one stays", x, 4, 0);
        x.event(1, 0, true);
        due.is("an OPEN one breaks a rule", x.late(0, 4), BAD);
        starts("all stays", x, 4, 0);
    }

    private static void lateRefuses() {
        ClosureHours x = Roads.two(6);
        due.is("none is placed", x.late(0, 0), BAD);
        x.run(0);
        due.is("one is not placed", x.late(0, 0), BAD);
        x.run(1);
        for (int none : NO_WORKS) {
            due.is("late(none)", x.late(none, 0), BAD);
        }
        for (int hour : new int[] {LOW, -1, 6, HIGH}) {
            due.is("late at no hour", x.late(0, hour), BAD);
        }
        due.is("it would end behind the hours", x.late(0, 5), BAD);
        starts("all stays", x, 0, 0);
        due.is("the last start", x.late(0, 4), 0);
        starts("the last start", x, 4, 0);
        x.near(0, 1, true);
        bring(x, 1, 3);
        due.is("an OPEN one is not late", x.late(1, 1), BAD);
        x.act(1, 4, 2);
        due.is("nor a CLOSED one", x.late(1, 0), BAD);
        due.is("another one may be", x.late(0, 2), 0);
        starts("another one may be", x, 2, 0);
        movedAre("another one", x, 0);
        due.is("a refused one", x.late(0, 5), BAD);
        movedAre("as before the refused one", x, 0);
        due.is("and no notice of it", x.count(3), 4);
    }

    private static void moved() {
        ClosureHours x = Roads.two(6);
        due.is("none yet", x.moved(0), BAD);
        x.run(1);
        movedAre("run", x, 1);
        for (int k : new int[] {LOW, -1, 1, 4, HIGH}) {
            due.is("moved(" + k + ")", x.moved(k), BAD);
        }
        due.is("run to the same start", x.run(1), 0);
        movedAre("none", x);
        due.is("all()", x.all(), 0);
        movedAre("all() placed the other", x, 0);
        due.no("a refused drop", x.drop(2));
        due.is("a refused run", x.run(2), NONE);
        due.is("a refused late", x.late(0, 5), BAD);
        x.noise(1, 0, 5);
        due.is("a refused all", x.all(), BAD);
        due.is("a run that finds none", x.run(1), -5);
        movedAre("as before them", x, 0);
        due.yes("drop(1)", x.drop(1));
        movedAre("drop", x, 1);
        x.noise(1, 1, 0);
        x.event(0, 0, true);
        x.all();
        movedAre("both, by their numbers", x, 0, 1);
        x.work(1, 0);
        bring(x, 0, 1);
        movedAre("other calls change nothing", x, 0, 1);
    }

    private static void start() {
        ClosureHours x = Roads.two(6);
        for (int none : NO_WORKS) {
            due.is("start(none)", x.start(none), BAD);
        }
        due.is("not placed", x.start(0), BAD);
        x.event(0, 3, true);
        x.event(0, 1, true);
        x.run(0);
        due.is("placed", x.start(0), 4);
        due.is("the other is not", x.start(1), BAD);
        x.drop(0);
        due.is("dropped", x.start(0), BAD);
    }

    private static void least() {
        ClosureHours x = new ClosureHours(6);
        due.is("all of no works", x.least(-1), 0);
        x.work(2, 1);
        x.work(1, 0);
        for (int none : NO_WORKS) {
            due.is("least(" + none + ")", x.least(none), none == -1 ? 0 : BAD);
        }
        due.is("not placed", x.least(0), BAD);
        delays(x, 0, 1, 2, 4, 8, 16, 32);
        delays(x, 1, 64, 64, 64, 64, 64, 64);
        x.run(0);
        due.is("set-up and length", x.least(0), 7);
        due.is("all that are placed", x.least(-1), 7);
        x.run(1);
        due.is("both", x.least(-1), 71);
        x.delay(0, 2, 5);
        due.is("as delays are now", x.least(-1), 72);
        x.drop(0);
        due.is("dropped", x.least(0), BAD);
        due.is("the other alone", x.least(-1), 64);
    }

    private static void actByTheTable() {
        int[][] next = {
            // by event: the state that each state leads to
            {1, BAD, BAD, BAD, BAD}, {BAD, 2, BAD, BAD, BAD}, {BAD, 0, 0, BAD, BAD},
            {BAD, BAD, 3, BAD, BAD}, {BAD, BAD, BAD, 4, BAD}, {BAD, BAD, BAD, 2, BAD}};
        int[] by = {0, 1, 1, 2, 2, -1};
        for (int event = 0; event < 6; event++) {
            for (int state = 0; state < 5; state++) {
                for (int person = 0; person < 3; person++) {
                    ClosureHours x = Roads.two(6);
                    x.run(1);
                    bring(x, 1, state);
                    boolean his = by[event] == -1 || by[event] == person;
                    int want = his ? next[event][state] : BAD;
                    String call = "act(1, " + event + ", " + person + ") in state " + state;
                    due.is(call, x.act(1, event, person), want);
                    due.is(call + ", then", x.state(1), want == BAD ? state : want);
                    due.is(call + ", the other", x.state(0), 0);
                    due.is(call + ", notices", x.count(3), 1);
                    due.is(call + ", start", x.start(1), 0);
                }
            }
        }
    }

    private static void actElsewhere() {
        ClosureHours x = Roads.two(6);
        due.is("not placed", x.act(0, 0, 0), BAD);
        due.is("it stays PLANNED", x.state(0), 0);
        x.run(0);
        for (int none : NO_WORKS) {
            due.is("act(none)", x.act(none, 0, 0), BAD);
        }
        for (int none : new int[] {LOW, -1, 6, 7, 32, 64, HIGH}) {
            due.is("no such event", x.act(0, none, 0), BAD);
        }
        for (int none : new int[] {LOW, -1, 3, 32, 64, HIGH}) {
            due.is("no such person", x.act(0, 0, none), BAD);
        }
        bring(x, 0, 3);
        for (int none : new int[] {LOW, -1, 3, 32, 64, HIGH}) {
            due.is("anybody is one of three", x.act(0, 5, none), BAD);
        }
        due.is("anybody", x.act(0, 5, 0), 2);
        due.is("and OPEN again", x.act(0, 3, 2), 3);
    }

    private static void state() {
        ClosureHours x = Roads.two(6);
        for (int none : NO_WORKS) {
            due.is("state(none)", x.state(none), BAD);
        }
        due.is("at first", x.state(0), 0);
        x.run(0);
        for (int s = 0; s < 5; s++) {
            ClosureHours y = Roads.two(6);
            y.run(1);
            bring(y, 1, s);
            due.is("state", y.state(1), s);
        }
        bring(x, 0, 2);
        x.run(1);
        due.is("another's run changes nothing", x.state(0), 2);
        x.delay(0, 0, 9);
        x.near(0, 1, true);
        due.is("nor do rules", x.state(0), 2);
        x.late(0, 3);
        due.is("late() moves it", x.start(0), 3);
        due.is("so it is PLANNED", x.state(0), 0);
    }

    private static void notice() {
        ClosureHours x = Roads.two(6);
        due.is("none yet", x.notice(0, 0), BAD);
        x.run(1);
        x.delay(0, 0, 1);
        x.all();
        x.drop(1);
        int[] works = {1, 0, 1};
        int[] starts = {0, 1, BAD};
        for (int k = 0; k < works.length; k++) {
            due.is("notice(" + k + ", 0)", x.notice(k, 0), works[k]);
            due.is("notice(" + k + ", 1)", x.notice(k, 1), starts[k]);
            for (int what : new int[] {LOW, -1, 2, 3, HIGH}) {
                due.is("notice(" + k + ", " + what + ")", x.notice(k, what), BAD);
            }
        }
        for (int k : new int[] {LOW, -1, 3, 200, HIGH}) {
            due.is("notice(" + k + ", 0)", x.notice(k, 0), BAD);
            due.is("notice(" + k + ", 1)", x.notice(k, 1), BAD);
        }
        x.event(0, 1, true);
        x.event(1, 0, true);
        x.all();
        due.is("by the works' numbers", x.notice(3, 0), 0);
        due.is("with its start", x.notice(3, 1), 2);
        due.is("then the next", x.notice(4, 0), 1);
        due.is("with its own", x.notice(4, 1), 1);
        x.event(0, 0, false);
        due.is("kept as it was", x.notice(3, 1), 2);
    }

    private static void noticesBeyond() {
        ClosureHours x = Roads.two(6);
        for (int i = 0; i < 99; i++) {
            x.run(0);
            x.drop(0);
        }
        x.run(0);
        x.event(1, 0, true);
        x.run(1);
        due.is("200 notices", x.count(3), 200);
        due.is("the last that is kept", x.notice(199, 0), 1);
        due.is("its start", x.notice(199, 1), 1);
        x.drop(0);
        due.is("201 notices", x.count(3), 201);
        due.is("beyond the first 200", x.notice(200, 0), BAD);
        due.is("its start", x.notice(200, 1), BAD);
        due.is("the first ones stay", x.notice(0, 1), 0);
        due.is("the last one stays", x.notice(199, 0), 1);
        due.is("moved(0)", x.moved(0), 0);
    }

    private static void rate() {
        ClosureHours x = new ClosureHours(4);
        x.work(1, 0);
        x.run(0);
        x.delay(0, 0, 60);
        due.is("0 at first", x.paid(0), 0);
        due.yes("rate(1)", x.rate(1));
        due.is("an hour", x.paid(0), 1);
        due.yes("rate(1000000)", x.rate(1_000_000));
        due.is("an hour", x.paid(0), 1_000_000);
        for (int cents : new int[] {LOW, -1, 1_000_001, HIGH}) {
            due.no("rate(" + cents + ")", x.rate(cents));
        }
        due.is("stays when refused", x.paid(0), 1_000_000);
        due.yes("rate(0)", x.rate(0));
        due.is("nothing again", x.paid(0), 0);
    }

    private static void paid() {
        ClosureHours x = Roads.two(6);
        x.rate(1);
        for (int none : NO_WORKS) {
            due.is("paid(none)", x.paid(none), 0);
        }
        delays(x, 0, 59, 60, 60, 60, 60, 60);
        delays(x, 1, 59, 60, 60, 60, 60, 60);
        due.is("not placed", x.paid(0), 0);
        due.is("all of none", x.paid(-1), 0);
        x.run(0);
        due.is("119 minutes, cut off", x.paid(0), 1);
        x.run(1);
        due.is("each cut off by itself", x.paid(-1), 2);
        x.rate(30);
        due.is("119 half cents", x.paid(0), 59);
        due.is("none such stays 0", x.paid(-2), 0);
        x.drop(0);
        due.is("dropped", x.paid(0), 0);
        due.is("the other alone", x.paid(-1), 59);

        ClosureHours y = new ClosureHours(15);
        y.rate(1_000_000);
        for (int w = 0; w < 4; w++) {
            y.work(12, 3);
            for (int h = 0; h < 15; h++) {
                y.delay(w, h, 100_000);
            }
            y.run(w);
        }
        due.is("more than an int holds", y.paid(3), 25_000_000_000L);
        due.is("all of it", y.paid(-1), 100_000_000_000L);
    }

    private static void open() {
        ClosureHours x = new ClosureHours(6);
        x.work(2, 1);
        x.work(1, 0);
        due.is("none is placed", x.open(0), 0);
        for (int hour : new int[] {LOW, -1, 6, HIGH}) {
            due.is("no such hour", x.open(hour), BAD);
        }
        x.event(0, 1, true);
        x.event(1, 0, true);
        x.event(1, 1, true);
        x.event(1, 2, true);
        x.run(0);
        x.run(1);
        starts("their starts", x, 2, 3);
        int[] want = {0, 0, 1, 2, 1, 0};
        for (int h = 0; h < 6; h++) {
            due.is("open(" + h + ")", x.open(h), want[h]);
        }
        x.drop(0);
        due.is("dropped", x.open(3), 1);
    }

    private static void holds() {
        ClosureHours x = new ClosureHours(24);
        due.yes("nothing", x.holds());
        x.work(2, 1);
        x.work(2, 0);
        x.event(0, 0, true);
        due.yes("nothing is placed", x.holds());
        x.event(0, 3, true);
        x.run(0);
        x.run(1);
        starts("their starts", x, 4, 0);
        due.yes("both are", x.holds());
        x.night(0, true);
        due.no("rule 2 came later", x.holds());
        x.night(0, false);
        x.event(0, 6, true);
        due.no("rule 3 came later", x.holds());
        x.event(0, 6, false);
        x.noise(0, 4, 4);
        due.yes("noise in the set-up alone", x.holds());
        x.noise(0, 5, 5);
        due.no("rule 4 came later", x.holds());
        x.noise(0, 5, 4);
        x.crew(0, 1);
        x.rest(1, 2);
        due.yes("two hours between", x.holds());
        x.rest(1, 3);
        due.no("rule 6 came later", x.holds());
        x.crew(0, 0);
        x.event(0, 0, false);
        x.run(0);
        due.yes("like hours", x.holds());
        x.near(0, 1, true);
        due.no("rule 5 came later", x.holds());
        x.drop(0);
        due.yes("what is not placed breaks nothing", x.holds());
    }

    private static void count() {
        ClosureHours x = Roads.two(6);
        x.work(1, 0);
        x.run(0);
        x.run(1);
        x.drop(0);
        due.is("hours", x.count(0), 6);
        due.is("works", x.count(1), 3);
        due.is("placed ones", x.count(2), 1);
        due.is("notices", x.count(3), 3);
        for (int what : new int[] {LOW, -1, 4, 5, HIGH}) {
            due.is("count(" + what + ")", x.count(what), BAD);
        }
    }
}
