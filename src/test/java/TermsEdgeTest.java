/** The boundary cases that the document's 'Terms' name, a test for each sentence. */
public final class TermsEdgeTest {
    private static final int BAD = Roads.BAD;
    private static final int NONE = Roads.NONE;
    private static final int LOW = Roads.LOW;
    private static final int HIGH = Roads.HIGH;

    private static final Due due = new Due();

    public static void main(String[] args) {
        calls512();
        hours();
        setUpAndLength();
        lengthBehindSetUp();
        span();
        delayAtFirst();
        delayOfAStart();
        atMostFourWorks();
        rule1();
        rule2();
        rule2InTheWholeSpan();
        rule3();
        rule4();
        rule5();
        rule5OnlyPlacedOnes();
        rule6();
        rule6BothWays();
        rule6EachOther();
        rule6OnlyPlacedOnes();
        rule6TheRestAtItsLongest();
        plannedAtFirst();
        events();
        askedIfPlaced();
        event2KeepsThePlace();
        openOrClosedStays();
        startBecomesAnother();
        startFromNone();
        startToNone();
        startStaysTheSame();
        due.end();
    }

    private static void calls512() {
        due.sentence("An object is used for at most 512 calls after it has been made");
        ClosureHours x = Roads.road(36, 4, 1, 0);
        for (int w = 1; w < 4; w++) {
            due.yes("crew(" + w + ", 0)", x.crew(w, 0));
        }
        due.is("all(), call 8", x.all(), 0);
        for (int i = 1; i <= 251; i++) {
            due.yes("rest, call " + (7 + 2 * i), x.rest(0, i % 2));
            due.is("all(), call " + (8 + 2 * i), x.all(), 0);
        }
        due.is("start(3), call 511", x.start(3), 6);
        due.is("count(3), call 512", x.count(3), 4 + 3 * 251);
    }

    private static void hours() {
        due.sentence("HOURS 0 .. n - 1.");
        for (int n : new int[] {1, 2, 24, 36}) {
            for (int h : new int[] {LOW, -1, 0, n - 1, n, n + 1, 64, HIGH}) {
                boolean is = h >= 0 && h < n;
                String at = ", hour " + h + " of " + n;
                ClosureHours x = Roads.road(n, 1, 1, 0);
                due.is("delay" + at, x.delay(0, h, 5), is);
                due.is("event" + at, x.event(0, h, false), is);
                due.is("may" + at, x.may(0, h), is);
                due.is("open" + at, x.open(h), is ? 0 : BAD);
                x.run(0);
                due.is("late" + at, x.late(0, h), is ? 0 : BAD);
                due.is("noise from and to" + at, x.noise(0, h, h), is);
            }
        }
    }

    private static void setUpAndLength() {
        due.sentence("A WORK has a SET-UP (0 .. 3 hours) and a LENGTH (1 .. 12 hours)");
        for (int setUp = 0; setUp <= 3; setUp++) {
            for (int length = 1; length <= 12; length++) {
                due.is("work(" + length + ", " + setUp + ")", new ClosureHours(9).work(length, setUp), 0);
            }
        }
        due.is("length 0", new ClosureHours(9).work(0, 0), BAD);
        due.is("length 13", new ClosureHours(9).work(13, 0), BAD);
        due.is("set-up -1", new ClosureHours(9).work(1, -1), BAD);
        due.is("set-up 4", new ClosureHours(9).work(1, 4), BAD);
    }

    private static void lengthBehindSetUp() {
        due.sentence("a LENGTH (1 .. 12 hours) behind it");
        ClosureHours x = Roads.road(8, 1, 2, 3);
        x.noise(0, 0, 2);
        due.yes("noise in the first three hours, the set-up", x.may(0, 0));
        x.noise(0, 3, 3);
        due.no("noise in the fourth hour, the length's first", x.may(0, 0));
        x.noise(0, 4, 4);
        due.no("noise in the fifth hour, the length's last", x.may(0, 0));
    }

    private static void span() {
        due.sentence("both together its SPAN");
        due.yes("12 and 3 within 15 hours", Roads.road(15, 1, 12, 3).may(0, 0));
        due.no("12 and 3 within 14 hours", Roads.road(14, 1, 12, 3).may(0, 0));
        ClosureHours x = Roads.road(36, 1, 12, 3);
        Roads.placeAt(x, 0, 5, 15);
        due.is("start", x.start(0), 5);
        for (int h = 0; h < 36; h++) {
            due.is("open(" + h + ")", x.open(h), h >= 5 && h <= 19 ? 1 : 0);
        }
    }

    private static void delayAtFirst() {
        due.sentence("a DELAY in minutes for each hour (0 at first)");
        for (int w = 0; w < 4; w++) {
            ClosureHours x = Roads.road(36, 4, 12, 0);
            for (int start = 0; start <= 24; start += 12) {
                Roads.placeAt(x, w, start, 12);
                due.is("start", x.start(w), start);
                due.is("work " + w + " from " + start, x.least(w), 0);
            }
        }
    }

    private static void delayOfAStart() {
        due.sentence("a START's delay is the sum over its span");
        int[] sums = {7, 14, 28, 56};
        for (int s = 0; s < 4; s++) {
            ClosureHours x = Roads.road(6, 1, 2, 1);
            Roads.delays(x, 0, 1, 2, 4, 8, 16, 32);
            Roads.placeAt(x, 0, s, 3);
            due.is("the delay from " + s, x.least(0), sums[s]);
        }
        ClosureHours most = Roads.road(36, 1, 12, 3);
        for (int h = 0; h < 36; h++) {
            most.delay(0, h, 100_000);
        }
        due.is("run", most.run(0), 0);
        due.is("the greatest delay of one", most.least(0), 1_500_000);
    }

    private static void atMostFourWorks() {
        due.sentence("At most 4 works.");
        ClosureHours x = Roads.road(9, 3, 1, 0);
        due.is("the fourth", x.work(1, 0), 3);
        due.is("a fifth", x.work(1, 0), BAD);
        due.is("once more", x.work(12, 3), BAD);
        due.is("works", x.count(1), 4);
    }

    private static void rule1() {
        due.sentence("1 the span ends within the hours.");
        for (int setUp = 0; setUp <= 3; setUp++) {
            for (int length = 1; length <= 12; length++) {
                ClosureHours x = Roads.road(10, 1, length, setUp);
                int last = 10 - setUp - length;
                for (int h = 0; h < 10; h++) {
                    due.is("span " + (10 - last) + " of 10 from " + h, x.may(0, h), h <= last);
                }
                due.is("run, span " + (10 - last), x.run(0), last >= 0 ? 0 : -2);
            }
        }
        ClosureHours full = Roads.road(36, 1, 12, 3);
        due.yes("a span of 15 ends with hour 35", full.may(0, 21));
        due.no("a span of 15 ends behind hour 35", full.may(0, 22));
        due.is("one hour is enough for one", Roads.road(1, 1, 1, 0).run(0), 0);
        due.is("one hour is not enough for two", Roads.road(1, 1, 1, 1).run(0), -2);
    }

    private static void rule2() {
        due.sentence("only hours whose number modulo 24 is 20 .. 23 or 0 .. 4");
        ClosureHours x = Roads.road(36, 2, 1, 0);
        x.night(0, true);
        due.same("a night work", Roads.may(x, 0), "111110000000000000001111" + "111110000000");
        due.same("a work that is none", Roads.may(x, 1), "1".repeat(36));
    }

    private static void rule2InTheWholeSpan() {
        due.sentence("a NIGHT work has in its span only hours");
        ClosureHours x = Roads.road(36, 1, 1, 3);
        x.night(0, true);
        due.same("a span of 4", Roads.may(x, 0), "110000000000000000001111" + "110000000000");
        ClosureHours night = Roads.road(36, 1, 9, 0);
        night.night(0, true);
        due.same("as long as the night", Roads.may(night, 0), "000000000000000000001000" + "000000000000");
        ClosureHours beyond = Roads.road(36, 1, 9, 1);
        beyond.night(0, true);
        due.is("an hour longer than the night", beyond.run(0), -3);
        ClosureHours day = Roads.road(24, 1, 5, 0);
        day.night(0, true);
        due.same("hour 23 is the last", Roads.may(day, 0), "100000000000000000000000");
    }

    private static void rule3() {
        due.sentence("3 no hour of the span is an EVENT for the work.");
        ClosureHours x = Roads.road(10, 2, 1, 2);
        x.event(0, 5, true);
        due.same("an event in hour 5", Roads.may(x, 0), "1110001100");
        due.same("not for the other work", Roads.may(x, 1), "1111111100");
        x.event(0, 5, false);
        x.event(0, 0, true);
        x.event(0, 9, true);
        due.same("in the first hour and the last", Roads.may(x, 0), "0111111000");
    }

    private static void rule4() {
        due.sentence("4 no hour of its length (the set-up not counted) lies in its NOISE hours, from .. to.");
        ClosureHours x = Roads.road(12, 2, 2, 2);
        x.noise(0, 5, 7);
        due.same("noise in 5 .. 7", Roads.may(x, 0), "110000111000");
        due.same("not for the other work", Roads.may(x, 1), "111111111000");
        x.noise(0, 5, 5);
        due.same("noise in 5 alone", Roads.may(x, 0), "110011111000");
        x.noise(0, 0, 1);
        due.same("noise where no length can be", Roads.may(x, 0), "111111111000");
        x.noise(0, 11, 11);
        due.same("noise in the last hour", Roads.may(x, 0), "111111110000");
        x.noise(0, 0, 11);
        due.is("noise in all", x.run(0), -5);
    }

    /** A work of two hours at 5, and one of three hours, set-ups being part of both. */
    private static ClosureHours atFive() {
        ClosureHours x = new ClosureHours(12);
        x.work(1, 1);
        x.work(2, 1);
        Roads.placeAt(x, 0, 5, 2);
        return x;
    }

    private static void rule5() {
        due.sentence("5 no work that is NEAR it, and placed, has an hour of its span in this span.");
        ClosureHours x = atFive();
        x.near(0, 1, true);
        due.is("start", x.start(0), 5);
        due.same("beside a neighbour in 5 and 6", Roads.may(x, 1), "111000011100");
        Roads.placeAt(x, 1, 2, 3);
        due.same("the neighbour beside 2, 3, 4", Roads.may(x, 0), "100001111110");
    }

    private static void rule5OnlyPlacedOnes() {
        due.sentence("NEAR it, and placed");
        ClosureHours x = atFive();
        due.same("placed, not near", Roads.may(x, 1), "111111111100");
        x.near(0, 1, true);
        x.drop(0);
        due.same("near, not placed", Roads.may(x, 1), "111111111100");
    }

    private static void rule6() {
        due.sentence("so many hours as the crew's REST lie between");
        ClosureHours x = atFive();
        x.crew(1, 0);
        due.same("no rest", Roads.may(x, 1), "111000011100");
        x.rest(0, 1);
        due.same("one hour", Roads.may(x, 1), "110000001100");
        x.rest(0, 2);
        due.same("two hours", Roads.may(x, 1), "100000000100");
        x.rest(0, 3);
        due.same("three hours", Roads.may(x, 1), "000000000000");
        x.crew(1, 1);
        due.same("of another crew", Roads.may(x, 1), "111111111100");
    }

    private static void rule6BothWays() {
        due.sentence("one's span ends before the other's begins (whichever comes first)");
        ClosureHours x = atFive();
        x.crew(1, 0);
        x.rest(0, 2);
        Roads.placeAt(x, 1, 9, 3);
        due.is("behind it", x.start(1), 9);
        due.yes("it came first", x.holds());
        due.same("the other before 9", Roads.may(x, 0), "111111000000");
        x.drop(0);
        Roads.placeAt(x, 1, 0, 3);
        due.same("the other behind 0 .. 2", Roads.may(x, 0), "000001111110");
    }

    private static void rule6EachOther() {
        due.sentence("6 with each other work of its CREW");
        ClosureHours x = Roads.road(12, 4, 1, 0);
        Roads.placeAt(x, 0, 2, 1);
        Roads.placeAt(x, 3, 8, 1);
        for (int w = 0; w < 4; w++) {
            x.crew(w, 2);
        }
        x.rest(2, 2);
        due.same("between two others", Roads.may(x, 1), "000001000001");
        due.is("run(1)", x.run(1), 5);
        due.same("between three others", Roads.may(x, 2), "000000000001");
        due.same("its own place bars nothing", Roads.may(x, 1), "000001000001");
    }

    private static void rule6OnlyPlacedOnes() {
        due.sentence("each other work of its CREW that is placed");
        ClosureHours x = atFive();
        x.crew(1, 0);
        x.rest(0, 36);
        due.same("placed", Roads.may(x, 1), "000000000000");
        x.drop(0);
        due.same("not placed", Roads.may(x, 1), "111111111100");
    }

    private static void rule6TheRestAtItsLongest() {
        due.sentence("and so many hours as the crew's REST lie between");
        ClosureHours x = Roads.road(36, 2, 1, 0);
        x.crew(1, 0);
        x.rest(0, 34);
        due.is("34 hours between the first and the last", x.all(), 0);
        due.same("starts", Roads.starts(x), "0 35");
        for (int rest = 35; rest <= 36; rest++) {
            x.rest(0, rest);
            due.no("holds with " + rest, x.holds());
            due.is("all with " + rest, x.all(), BAD);
            due.is("run with " + rest, x.run(1), -7);
        }
    }

    private static void plannedAtFirst() {
        due.sentence("0 PLANNED (at first)");
        ClosureHours x = Roads.road(6, 4, 1, 0);
        for (int w = 0; w < 4; w++) {
            due.is("state(" + w + ")", x.state(w), 0);
        }
    }

    private static void events() {
        byTheTable("0 by 0: PLANNED to ASKED", 0, "0", "0", 1);
        byTheTable("1 by 1: ASKED to APPROVED.", 1, "1", "1", 2);
        byTheTable("2 by 1: ASKED, APPROVED to PLANNED.", 2, "1", "12", 0);
        byTheTable("3 by 2: APPROVED to OPEN.", 3, "2", "2", 3);
        byTheTable("4 by 2: OPEN to CLOSED.", 4, "2", "3", 4);
        byTheTable("5 by anybody: OPEN to APPROVED.", 5, "012", "3", 2);
        byTheTable("EVENTS, by whom (0 planner, 1 authority, 2 crew)", 6, "", "", BAD);
        byTheTable("EVENTS, by whom (0 planner, 1 authority, 2 crew)", -1, "", "", BAD);
    }

    private static void byTheTable(String words, int event, String by, String from, int to) {
        due.sentence(words);
        for (int state = 0; state < 5; state++) {
            for (int person = -1; person < 4; person++) {
                ClosureHours x = Roads.two(6);
                x.run(1);
                Roads.bring(x, 1, state);
                due.is("the state before", x.state(1), state);
                boolean may = by.contains("" + person) && from.contains("" + state);
                String call = "event " + event + " in state " + state + " by " + person;
                due.is(call, x.act(1, event, person), may ? to : BAD);
                due.is(call + ", the state behind", x.state(1), may ? to : state);
            }
        }
    }

    private static void askedIfPlaced() {
        due.sentence("PLANNED to ASKED, if it is placed");
        ClosureHours x = Roads.two(6);
        x.run(1);
        due.is("never placed", x.act(0, 0, 0), BAD);
        due.is("state", x.state(0), 0);
        x.run(0);
        x.drop(0);
        due.is("placed no more", x.act(0, 0, 0), BAD);
        x.run(0);
        due.is("placed", x.act(0, 0, 0), 1);
    }

    private static void event2KeepsThePlace() {
        due.sentence("2 by 1: ASKED, APPROVED to PLANNED.");
        for (int state = 1; state <= 2; state++) {
            ClosureHours x = Roads.two(6);
            x.run(0);
            Roads.bring(x, 0, state);
            due.is("back from " + state, x.act(0, 2, 1), 0);
            due.is("it stays placed", x.start(0), 0);
            due.is("without a notice", x.count(3), 1);
            due.is("and may be asked for again", x.act(0, 0, 0), 1);
        }
    }

    private static void openOrClosedStays() {
        due.sentence("Works that are OPEN or CLOSED are never moved.");
        for (int state = 3; state <= 4; state++) {
            ClosureHours x = Roads.two(8);
            x.all();
            Roads.bring(x, 0, state);
            x.delay(0, 0, 9);
            x.near(0, 1, true);
            due.is("run", x.run(0), NONE);
            due.no("drop", x.drop(0));
            due.is("late", x.late(0, 1), BAD);
            due.is("all", x.all(), 9);
            due.same("all moves the other", Roads.starts(x), "0 2");
            due.is("late of the other", x.late(1, 3), 0);
            due.same("late moves the other", Roads.starts(x), "0 3");
            due.is("its state", x.state(0), state);
        }
        ClosureHours back = Roads.two(8);
        back.run(0);
        Roads.bring(back, 0, 3);
        back.delay(0, 0, 9);
        due.is("OPEN to APPROVED", back.act(0, 5, 1), 2);
        due.is("may be moved again", back.run(0), 1);
    }

    private static void startBecomesAnother() {
        due.sentence("Each work whose start becomes another one gets a NOTICE, and is PLANNED.");
        for (int state = 0; state <= 2; state++) {
            ClosureHours x = Roads.two(8);
            x.all();
            Roads.bring(x, 0, state);
            x.event(0, 0, true);
            due.is("run", x.run(0), 1);
            notice("run", x, 2, 0, 1);
            due.is("PLANNED by run", x.state(0), 0);
            Roads.bring(x, 0, state);
            x.event(0, 1, true);
            due.is("all", x.all(), 0);
            notice("all", x, 3, 0, 2);
            due.is("PLANNED by all", x.state(0), 0);
            Roads.bring(x, 0, state);
            due.is("late", x.late(0, 3), 0);
            notice("late", x, 4, 0, 3);
            due.is("PLANNED by late", x.state(0), 0);
            Roads.bring(x, 0, state);
            x.near(0, 1, true);
            due.is("late of the other", x.late(1, 6), 0);
            notice("late of the other", x, 5, 1, 6);
            due.is("what stays keeps its state", x.state(0), state);
            x.event(0, 3, true);
            due.is("late of the other again", x.late(1, 6), 1);
            notice("late moves both", x, 6, 0, 4);
            due.is("PLANNED by another's late", x.state(0), 0);
        }
    }

    /** The newest notice, and how many there are with it. */
    private static void notice(String when, ClosureHours x, int before, int work, int start) {
        due.is(when + ": notices", x.count(3), before + 1);
        due.is(when + ": the notice's work", x.notice(before, 0), work);
        due.is(when + ": the notice's start", x.notice(before, 1), start);
    }

    private static void startFromNone() {
        due.sentence("(also from or to none) gets a NOTICE: from none");
        ClosureHours x = Roads.two(6);
        x.run(1);
        notice("run", x, 0, 1, 0);
        x.all();
        notice("all", x, 1, 0, 0);
        due.is("PLANNED", x.state(0), 0);
    }

    private static void startToNone() {
        due.sentence("(also from or to none) gets a NOTICE, and is PLANNED: to none");
        for (int state = 0; state <= 2; state++) {
            ClosureHours x = Roads.two(6);
            x.run(1);
            Roads.bring(x, 1, state);
            due.yes("drop", x.drop(1));
            notice("drop", x, 1, 1, BAD);
            due.is("PLANNED", x.state(1), 0);
        }
    }

    private static void startStaysTheSame() {
        due.sentence("Each work whose start becomes another one: no other");
        ClosureHours x = Roads.two(6);
        x.all();
        Roads.bring(x, 0, 2);
        Roads.bring(x, 1, 1);
        due.is("run", x.run(0), 0);
        due.is("all", x.all(), 0);
        due.is("late", x.late(0, 0), 0);
        due.is("no notice", x.count(3), 2);
        due.is("APPROVED still", x.state(0), 2);
        due.is("ASKED still", x.state(1), 1);
    }
}
