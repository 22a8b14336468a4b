/** The boundary cases that promises 10 to 15 name, a test for each sentence. */
public final class PlacingEdgeTest {
    private static final int BAD = Roads.BAD;
    private static final int NONE = Roads.NONE;
    private static final int LOW = Roads.LOW;
    private static final int HIGH = Roads.HIGH;

    private static final Due due = new Due();

    public static void main(String[] args) {
        runLeastDelay();
        runEarliest();
        runWithOthersAsPlaced();
        runTellsEachRule();
        runTellsTheGreatest();
        runTellsWhatBreaksFirst();
        runStaysAsItIs();
        runNoSuchWork();
        runOpenOrClosed();
        dropNotPlacedAnyMore();
        dropNoneSuch();
        dropNotPlaced();
        dropOpenOrClosed();
        mayByAllRules();
        mayWithOthersAsPlaced();
        mayNoneSuch();
        allPlacesAll();
        allLeastTogether();
        allLikeOnes();
        allLikeOnesAtTheEnds();
        allOpenOrClosedAsItIs();
        allRulesOfOpenOrClosed();
        allJustFits();
        allThereAreNone();
        allNoWorks();
        lateNotBefore();
        lateFewestMoved();
        lateFewestMovedAtTheMost();
        lateHowMany();
        lateLeastDelay();
        lateFirstOnes();
        lateThereAreNone();
        lateNotAllPlaced();
        lateNoSuchWorkOrHour();
        lateOpenOrClosed();
        movedByNumber();
        movedNoneSuch();
        movedNothing();
        movedInEachCall();
        movedNotRefused();
        due.end();
    }

    private static void runLeastDelay() {
        due.sentence("Places a work at the start of least delay");
        for (int best = 0; best < 36; best++) {
            ClosureHours x = Roads.road(36, 1, 1, 0);
            for (int h = 0; h < 36; h++) {
                x.delay(0, h, h == best ? 99_999 : 100_000);
            }
            due.is("run", x.run(0), best);
            due.is("start", x.start(0), best);
        }
        ClosureHours x = Roads.road(6, 1, 2, 1);
        Roads.delays(x, 0, 0, 9, 0, 3, 0, 4);
        due.is("by the whole span", x.run(0), 2);
    }

    private static void runEarliest() {
        due.sentence("of like ones the earliest: the start");
        ClosureHours x = Roads.road(6, 1, 1, 0);
        due.is("all alike", x.run(0), 0);
        Roads.delays(x, 0, 7, 5, 6, 5, 5, 7);
        due.is("three alike", x.run(0), 1);
        x.event(0, 1, true);
        due.is("two alike", x.run(0), 3);
        due.is("not where it is, but the earliest", x.event(0, 1, false) ? x.run(0) : BAD, 1);
    }

    private static void runWithOthersAsPlaced() {
        due.sentence("that keeps all rules with the others as they are placed");
        ClosureHours x = Roads.two(6);
        x.near(0, 1, true);
        due.is("the other is not placed", x.run(0), 0);
        due.is("the other is placed", x.run(1), 2);
        x.delay(0, 0, 1);
        due.is("not upon the other", x.run(0), 4);
        due.is("the other stays", x.start(1), 2);
        x.drop(1);
        due.is("its own place bars nothing", x.run(0), 1);
    }

    /** One work of one hour in six, and one that is placed in all six. */
    private static ClosureHours besideAFullOne() {
        ClosureHours x = new ClosureHours(6);
        x.work(1, 0);
        x.work(6, 0);
        x.run(1);
        return x;
    }

    private static void runTellsEachRule() {
        due.sentence("- 1 less r: none does");
        due.is("rule 1", Roads.road(6, 1, 6, 1).run(0), -2);
        ClosureHours night = Roads.road(36, 1, 10, 0);
        night.night(0, true);
        due.is("rule 2", night.run(0), -3);
        ClosureHours event = besideAFullOne();
        Roads.barAll(event, 0);
        due.is("rule 3", event.run(0), -4);
        ClosureHours noise = besideAFullOne();
        noise.noise(0, 0, 5);
        due.is("rule 4", noise.run(0), -5);
        ClosureHours near = besideAFullOne();
        near.near(0, 1, true);
        due.is("rule 5", near.run(0), -6);
        ClosureHours crew = besideAFullOne();
        crew.crew(0, 1);
        due.is("rule 6", crew.run(0), -7);
    }

    private static void runTellsTheGreatest() {
        due.sentence("r being the greatest of the numbers of the rules that the starts 0 .. n - 1 break first");
        ClosureHours x = Roads.road(6, 2, 2, 0);
        Roads.barAll(x, 0);
        due.is("3 at 0 .. 4, 1 at 5", x.run(0), -4);
        x.event(0, 2, false);
        x.event(0, 3, false);
        x.noise(0, 3, 3);
        due.is("4 at 2 alone", x.run(0), -5);
        x.noise(0, 1, 0);
        Roads.placeAt(x, 1, 3, 2);
        x.near(0, 1, true);
        due.is("5 at 2 alone", x.run(0), -6);
        x.near(0, 1, false);
        x.crew(0, 1);
        due.is("6 at 2 alone", x.run(0), -7);
        ClosureHours ends = Roads.road(6, 1, 1, 0);
        Roads.barAll(ends, 0);
        ends.event(0, 5, false);
        ends.noise(0, 5, 5);
        due.is("4 at the last start alone", ends.run(0), -5);
        ends.event(0, 5, true);
        ends.event(0, 0, false);
        ends.noise(0, 0, 0);
        due.is("4 at the first start alone", ends.run(0), -5);
    }

    private static void runTellsWhatBreaksFirst() {
        due.sentence("the rules that the starts break first");
        ClosureHours x = besideAFullOne();
        x.crew(0, 1);
        x.near(0, 1, true);
        due.is("5 before 6", x.run(0), -6);
        x.noise(0, 0, 5);
        due.is("4 before 5 and 6", x.run(0), -5);
        Roads.barAll(x, 0);
        due.is("3 before 4, 5 and 6", x.run(0), -4);
        x.night(0, true);
        due.is("2 at hour 5 alone", x.run(0), -4);
        ClosureHours night = Roads.road(36, 1, 10, 0);
        night.night(0, true);
        Roads.barAll(night, 0);
        night.noise(0, 0, 35);
        due.is("2 before 3 and 4", night.run(0), -3);
        ClosureHours beyond = Roads.road(5, 1, 6, 0);
        beyond.night(0, true);
        Roads.barAll(beyond, 0);
        beyond.noise(0, 0, 4);
        due.is("1 before 2, 3 and 4", beyond.run(0), -2);
    }

    private static void runStaysAsItIs() {
        due.sentence("none does (it stays as it is)");
        for (int state = 0; state <= 2; state++) {
            ClosureHours x = Roads.two(6);
            x.all();
            Roads.bring(x, 0, state);
            Roads.barAll(x, 0);
            String before = Roads.seen(x);
            due.is("run", x.run(0), -4);
            due.same("all", Roads.seen(x), before);
        }
        ClosureHours none = Roads.two(6);
        Roads.barAll(none, 0);
        String before = Roads.seen(none);
        due.is("run of one that is not placed", none.run(0), -4);
        due.same("all", Roads.seen(none), before);
    }

    private static void runNoSuchWork() {
        due.sentence("NONE: no such work");
        ClosureHours x = Roads.two(6);
        x.all();
        String before = Roads.seen(x);
        for (int none : Roads.NO_WORKS) {
            due.is("run(" + none + ")", x.run(none), NONE);
        }
        due.same("all", Roads.seen(x), before);
    }

    private static void runOpenOrClosed() {
        due.sentence("NONE: it is OPEN or CLOSED");
        for (int state = 0; state <= 4; state++) {
            ClosureHours x = Roads.two(6);
            x.all();
            Roads.bring(x, 0, state);
            x.delay(0, 0, 1);
            String before = Roads.seen(x);
            due.is("run in state " + state, x.run(0), state <= 2 ? 1 : NONE);
            due.is("it moved", !before.equals(Roads.seen(x)), state <= 2);
            Roads.barAll(x, 0);
            due.is("run without a start in state " + state, x.run(0), state <= 2 ? -4 : NONE);
        }
    }

    private static void dropNotPlacedAnyMore() {
        due.sentence("A work is not placed any more.");
        ClosureHours x = Roads.two(6);
        x.near(0, 1, true);
        x.all();
        due.yes("drop", x.drop(0));
        due.is("its start", x.start(0), BAD);
        due.is("placed ones", x.count(2), 1);
        due.is("its hours", x.open(0), 0);
        due.yes("it bars nothing", x.may(1, 0));
        due.yes("drop the last", x.drop(1));
        due.is("none is placed", x.count(2), 0);
        due.is("works", x.count(1), 2);
    }

    private static void dropNoneSuch() {
        due.sentence("drop: False: none such");
        ClosureHours x = Roads.two(6);
        x.all();
        String before = Roads.seen(x);
        for (int none : Roads.NO_WORKS) {
            due.no("drop(" + none + ")", x.drop(none));
        }
        due.same("all", Roads.seen(x), before);
    }

    private static void dropNotPlaced() {
        due.sentence("drop: False: it is not placed");
        ClosureHours x = Roads.two(6);
        x.run(1);
        String before = Roads.seen(x);
        due.no("never placed", x.drop(0));
        due.same("all", Roads.seen(x), before);
        x.drop(1);
        before = Roads.seen(x);
        due.no("dropped", x.drop(1));
        due.same("all", Roads.seen(x), before);
    }

    private static void dropOpenOrClosed() {
        due.sentence("drop: False: or OPEN or CLOSED");
        for (int state = 0; state <= 4; state++) {
            ClosureHours x = Roads.two(6);
            x.all();
            Roads.bring(x, 0, state);
            String before = Roads.seen(x);
            due.is("drop in state " + state, x.drop(0), state <= 2);
            due.is("it was dropped", !before.equals(Roads.seen(x)), state <= 2);
        }
    }

    private static void mayByAllRules() {
        due.sentence("Whether a work might begin at an hour, by all rules");
        ClosureHours x = Roads.road(10, 3, 1, 1);
        due.same("rule 1", Roads.may(x, 0), "1111111110");
        x.event(0, 0, true);
        due.same("rule 3", Roads.may(x, 0), "0111111110");
        x.noise(0, 2, 2);
        due.same("rule 4", Roads.may(x, 0), "0011111110");
        Roads.placeAt(x, 1, 3, 2);
        x.near(0, 1, true);
        due.same("rule 5", Roads.may(x, 0), "0000011110");
        Roads.placeAt(x, 2, 8, 2);
        x.crew(2, 0);
        due.same("rule 6", Roads.may(x, 0), "0000011000");
        x.rest(0, 1);
        due.same("rule 6 with a rest", Roads.may(x, 0), "0000010000");
        x.night(0, true);
        due.same("rule 2", Roads.may(x, 0), "0000000000");
    }

    private static void mayWithOthersAsPlaced() {
        due.sentence("might begin at an hour, with the others as they are placed");
        ClosureHours x = Roads.two(6);
        x.near(0, 1, true);
        due.same("none is placed", Roads.may(x, 0), "111110");
        x.run(0);
        due.same("itself is placed", Roads.may(x, 0), "111110");
        Roads.bring(x, 0, 3);
        due.same("itself is OPEN", Roads.may(x, 0), "111110");
        x.act(0, 4, 2);
        due.same("itself is CLOSED", Roads.may(x, 0), "111110");
        due.same("the other is placed", Roads.may(x, 1), "001110");
        due.is("nothing was placed by it", x.count(2), 1);
        due.is("nor is there a notice", x.count(3), 1);
    }

    private static void mayNoneSuch() {
        due.sentence("False also: none such.");
        ClosureHours x = Roads.road(6, 2, 1, 0);
        for (int none : Roads.NO_WORKS) {
            due.no("work " + none, x.may(none, 0));
        }
        for (int none : Roads.NO_HOURS) {
            due.no("hour " + none, x.may(0, none));
            due.no("work and hour " + none, x.may(none, none));
        }
        due.yes("the first hour", x.may(0, 0));
        due.yes("the last hour", x.may(1, 5));
    }

    private static void allPlacesAll() {
        due.sentence("Places all works");
        for (int works = 1; works <= 4; works++) {
            ClosureHours x = Roads.road(6, works, 1, 0);
            due.is("all of " + works, x.all(), 0);
            due.is("placed ones", x.count(2), works);
        }
        ClosureHours x = Roads.road(6, 4, 1, 0);
        x.run(2);
        due.is("one is placed", x.all(), 0);
        due.is("placed ones", x.count(2), 4);
        x.drop(3);
        due.is("one is not", x.all(), 0);
        due.is("placed ones", x.count(2), 4);
    }

    private static void allLeastTogether() {
        due.sentence("with the least delay together: that delay");
        ClosureHours x = Roads.two(4);
        x.near(0, 1, true);
        Roads.delays(x, 0, 0, 0, 1, 1);
        Roads.delays(x, 1, 0, 0, 2, 1);
        due.is("the first makes room", x.all(), 2);
        due.same("starts", Roads.starts(x), "2 0");
        due.is("as least tells", x.least(-1), 2);
        ClosureHours most = Roads.road(36, 4, 12, 3);
        for (int w = 0; w < 4; w++) {
            for (int h = 0; h < 36; h++) {
                most.delay(w, h, 100_000);
            }
        }
        due.is("the greatest delay", most.all(), 6_000_000);
        for (int h = 21; h < 36; h++) {
            most.delay(3, h, 99_999);
        }
        due.is("15 minutes less", most.all(), 5_999_985);
        due.same("starts", Roads.starts(most), "0 0 0 21");
    }

    private static void allLikeOnes() {
        due.sentence("of like ones those whose first work begins earlier, then the second one, and so on");
        ClosureHours x = Roads.road(6, 4, 1, 0);
        Roads.allNear(x);
        due.is("all", x.all(), 0);
        due.same("in the order of their numbers", Roads.starts(x), "0 1 2 3");
        for (int w = 0; w < 3; w++) {
            ClosureHours y = Roads.road(36, 4, 1, 0);
            Roads.only(y, w, 1, 2);
            Roads.only(y, w + 1, 1, 35);
            y.near(w, w + 1, true);
            due.is("all", y.all(), 0);
            due.is("work " + w + " begins earlier", y.start(w), 1);
            due.is("though the next one begins last", y.start(w + 1), 35);
        }
        ClosureHours late = Roads.road(36, 2, 1, 0);
        Roads.only(late, 0, 0, 1);
        late.delay(0, 0, 1);
        Roads.only(late, 1, 34, 35);
        late.delay(1, 34, 1);
        due.is("less delay goes before earlier", late.all(), 0);
        due.same("starts", Roads.starts(late), "1 35");
    }

    private static void allLikeOnesAtTheEnds() {
        due.sentence("of like ones those whose first work begins earlier (the first hours and the last)");
        ClosureHours next = Roads.road(36, 4, 1, 0);
        Roads.only(next, 2, 34, 35);
        Roads.only(next, 3, 0, 35);
        next.near(2, 3, true);
        next.delay(2, 34, 1);
        next.delay(3, 0, 1);
        due.is("35 and 0 is next behind 34 and 35", next.all(), 1);
        due.same("starts", Roads.starts(next), "0 0 34 35");
        ClosureHours last = Roads.road(36, 4, 1, 0);
        for (int w = 0; w < 4; w++) {
            Roads.only(last, w, 35);
            last.delay(w, 35, 25_000);
        }
        due.is("the last of all plans", last.all(), 100_000);
        due.same("starts", Roads.starts(last), "35 35 35 35");
    }

    private static void allOpenOrClosedAsItIs() {
        due.sentence("also of what is OPEN or CLOSED, as it is");
        for (int state = 0; state <= 4; state++) {
            ClosureHours x = Roads.two(6);
            x.all();
            Roads.bring(x, 0, state);
            x.near(0, 1, true);
            Roads.delays(x, 0, 9, 9, 9, 9, 0, 0);
            boolean stays = state >= 3;
            due.is("all in state " + state, x.all(), stays ? 18 : 0);
            due.same("starts", Roads.starts(x), stays ? "0 2" : "4 0");
            due.is("state", x.state(0), stays ? state : 0);
        }
        ClosureHours both = Roads.two(6);
        both.all();
        Roads.bring(both, 0, 3);
        Roads.bring(both, 1, 4);
        both.delay(1, 0, 7);
        due.is("all are OPEN or CLOSED", both.all(), 7);
        due.same("they stay", Roads.starts(both), "0 0");
        due.same("none was moved", Roads.moved(both), "-1 -1 -1 -1 -1");
    }

    private static void allRulesOfOpenOrClosed() {
        due.sentence("the starts that keep all rules (also of what is OPEN or CLOSED, as it is)");
        for (int state = 3; state <= 4; state++) {
            for (int rule = 2; rule <= 6; rule++) {
                ClosureHours x = Roads.road(24, 2, 1, 0);
                Roads.placeAt(x, 0, 12, 1);
                Roads.placeAt(x, 1, 12, 1);
                Roads.bring(x, 0, state);
                Roads.bring(x, 1, rule >= 5 ? state : 0);
                breakRule(x, rule);
                due.no("rule " + rule + " is broken", x.holds());
                due.is("all, rule " + rule, x.all(), BAD);
                due.same("all stays", Roads.starts(x), "12 12");
            }
        }
    }

    /** Makes a rule that work 0 at 12, and for rules 5 and 6 work 1 there too, does not keep. */
    private static void breakRule(ClosureHours x, int rule) {
        switch (rule) {
            case 2 -> x.night(0, true);
            case 3 -> x.event(0, 12, true);
            case 4 -> x.noise(0, 12, 12);
            case 5 -> x.near(0, 1, true);
            default -> x.crew(0, 1);
        }
    }

    private static void allJustFits() {
        due.sentence("BAD: there are none (just enough hours, and one too few)");
        ClosureHours x = Roads.road(36, 4, 8, 1);
        Roads.allNear(x);
        due.is("four spans of 9 in 36 hours", x.all(), 0);
        due.same("starts", Roads.starts(x), "0 9 18 27");
        ClosureHours fewer = Roads.road(35, 4, 8, 1);
        Roads.allNear(fewer);
        due.is("four spans of 9 in 35 hours", fewer.all(), BAD);
        ClosureHours crew = Roads.road(31, 4, 1, 0);
        for (int w = 0; w < 4; w++) {
            crew.crew(w, 1);
        }
        crew.rest(1, 9);
        due.is("three rests of 9 in 31 hours", crew.all(), 0);
        due.same("starts", Roads.starts(crew), "0 10 20 30");
        crew.rest(1, 10);
        due.is("three rests of 10 in 31 hours", crew.all(), BAD);
        due.same("all stays", Roads.starts(crew), "0 10 20 30");
        due.is("a work as long as the hours", Roads.road(15, 1, 12, 3).all(), 0);
        due.is("a work longer than the hours", Roads.road(14, 1, 12, 3).all(), BAD);
    }

    private static void allThereAreNone() {
        due.sentence("BAD: there are none: all stays.");
        for (int barred = 0; barred < 3; barred++) {
            ClosureHours x = Roads.road(6, 3, 2, 0);
            x.all();
            x.drop(2);
            Roads.bring(x, 0, 1);
            Roads.bring(x, 1, 2);
            x.delay(0, 0, 5);
            Roads.barAll(x, barred);
            String before = Roads.seen(x);
            due.is("no start for work " + barred, x.all(), BAD);
            due.same("all", Roads.seen(x), before);
        }
    }

    private static void allNoWorks() {
        due.sentence("BAD: or no works");
        ClosureHours x = new ClosureHours(36);
        due.is("no works", x.all(), BAD);
        due.is("notices", x.count(3), 0);
        due.is("no such work either", x.work(0, 0), BAD);
        due.is("no works still", x.all(), BAD);
        due.is("one work", x.work(1, 0), 0);
        due.is("all of one", x.all(), 0);
    }

    private static void lateNotBefore() {
        due.sentence("one can't begin before an hour");
        for (int h = 0; h < 6; h++) {
            ClosureHours x = Roads.two(6);
            x.all();
            due.is("late from 0, hour " + h, x.late(0, h), h <= 4 ? 0 : BAD);
            due.same("starts, hour " + h, Roads.starts(x), (h <= 4 ? h : 0) + " 0");
        }
        for (int h = 0; h < 6; h++) {
            ClosureHours x = Roads.two(6);
            x.all();
            x.late(0, 3);
            due.is("late from 3, hour " + h, x.late(0, h), h <= 4 ? 0 : BAD);
            due.is("the first that it can, hour " + h, x.start(0), h <= 4 ? h : 3);
        }
        ClosureHours last = Roads.road(36, 1, 1, 0);
        last.all();
        due.is("the last hour", last.late(0, 35), 0);
        due.is("start", last.start(0), 35);
    }

    /** Works of 3, 2, 2 and 2 hours that fill nine hours, near one another: at 0, 3, 5 and 7. */
    private static ClosureHours fullNine() {
        ClosureHours x = new ClosureHours(9);
        x.work(2, 1);
        x.work(2, 0);
        x.work(1, 1);
        x.work(2, 0);
        Roads.allNear(x);
        x.all();
        return x;
    }

    private static void lateFewestMoved() {
        due.sentence("for which the fewest works but this one are moved");
        ClosureHours x = Roads.road(8, 3, 2, 0);
        Roads.allNear(x);
        x.all();
        due.same("all", Roads.starts(x), "0 2 4");
        for (int h = 6; h < 8; h++) {
            x.delay(0, h, 100_000);
        }
        due.is("late", x.late(0, 1), 0);
        due.same("none but this one, whatever it costs", Roads.starts(x), "6 2 4");
        ClosureHours y = Roads.road(10, 3, 2, 0);
        Roads.allNear(y);
        y.all();
        Roads.only(y, 0, 2, 3, 4, 5);
        y.delay(0, 2, 100_000);
        y.delay(0, 5, 100_000);
        due.is("late", y.late(0, 1), 1);
        due.same("one, though at 3 with both moved there is no delay", Roads.starts(y), "2 0 4");
    }

    private static void lateFewestMovedAtTheMost() {
        due.sentence("the fewest works but this one are moved; of these the least delay");
        ClosureHours x = Roads.road(36, 2, 12, 3);
        Roads.placeAt(x, 1, 0, 15);
        Roads.placeAt(x, 0, 15, 15);
        x.near(0, 1, true);
        for (int h = 0; h < 36; h++) {
            x.delay(h < 15 ? 1 : 0, h, 100_000);
        }
        due.is("late", x.late(0, 0), 0);
        due.same("none is moved, though one move would end all delay", Roads.starts(x), "15 0");
        due.is("all delay", x.least(-1), 3_000_000);
        due.is("all", x.all(), 0);
        due.same("all moves both", Roads.starts(x), "0 15");
    }

    private static void lateHowMany() {
        due.sentence("how many others are moved");
        int[] hours = {0, 1, 2, 3, 4, 5, 6, 7, 8};
        int[] many = {0, 1, 1, 2, 2, 3, 3, BAD, BAD};
        String[] starts = {"0 3 5 7", "2 0 5 7", "2 0 5 7", "4 0 2 7", "4 0 2 7", "6 0 2 4", "6 0 2 4",
            "0 3 5 7", "0 3 5 7"};
        for (int i = 0; i < hours.length; i++) {
            ClosureHours x = fullNine();
            due.is("late(0, " + hours[i] + ")", x.late(0, hours[i]), many[i]);
            due.same("starts, hour " + hours[i], Roads.starts(x), starts[i]);
        }
    }

    private static void lateLeastDelay() {
        due.sentence("of these the least delay");
        ClosureHours x = Roads.two(8);
        x.near(0, 1, true);
        x.all();
        due.same("all", Roads.starts(x), "0 2");
        Roads.delays(x, 0, 0, 0, 0, 0, 5, 5, 4, 4);
        due.is("late", x.late(0, 1), 0);
        due.same("not the earliest", Roads.starts(x), "6 2");
        Roads.delays(x, 0, 0, 0, 0, 0, 9, 9, 9, 9);
        Roads.delays(x, 1, 9, 9, 9, 9, 1, 1, 2, 2);
        x.event(1, 2, true);
        due.is("the other must be moved", x.late(0, 2), 1);
        due.same("the least together", Roads.starts(x), "2 4");
    }

    private static void lateFirstOnes() {
        due.sentence("of these the first ones as in all()");
        ClosureHours x = Roads.road(10, 3, 2, 0);
        Roads.allNear(x);
        x.all();
        due.same("all", Roads.starts(x), "0 2 4");
        x.event(1, 2, true);
        x.event(2, 4, true);
        due.is("both others must be moved", x.late(0, 2), 2);
        due.same("the first work first, then the second", Roads.starts(x), "2 0 5");
        ClosureHours y = Roads.road(10, 3, 2, 0);
        Roads.allNear(y);
        y.all();
        y.event(0, 0, true);
        y.event(1, 2, true);
        due.is("the third is late, the others must be moved", y.late(2, 6), 2);
        due.same("the first work first, though it is not late", Roads.starts(y), "1 3 6");
    }

    private static void lateThereAreNone() {
        due.sentence("late: BAD: there are none: all stays");
        ClosureHours x = fullNine();
        Roads.bring(x, 1, 1);
        Roads.bring(x, 2, 2);
        String before = Roads.seen(x);
        due.is("no room", x.late(0, 7), BAD);
        due.is("ends behind the hours", x.late(1, 8), BAD);
        due.same("all", Roads.seen(x), before);
        x.event(3, 7, true);
        Roads.barAll(x, 3);
        before = Roads.seen(x);
        due.is("another one has no start", x.late(0, 0), BAD);
        due.same("all", Roads.seen(x), before);
        ClosureHours open = fullNine();
        Roads.bring(open, 1, 3);
        Roads.bring(open, 2, 4);
        before = Roads.seen(open);
        due.is("the others are OPEN and CLOSED", open.late(0, 1), BAD);
        due.same("all", Roads.seen(open), before);
    }

    private static void lateNotAllPlaced() {
        due.sentence("BAD: not all are placed");
        ClosureHours x = Roads.road(6, 3, 1, 0);
        due.is("none is placed", x.late(0, 0), BAD);
        x.run(0);
        due.is("it is placed itself", x.late(0, 0), BAD);
        x.run(1);
        String before = Roads.seen(x);
        due.is("one is not", x.late(0, 3), BAD);
        due.is("that one itself", x.late(2, 3), BAD);
        due.same("all", Roads.seen(x), before);
        x.run(2);
        due.is("all are", x.late(0, 3), 0);
        x.drop(1);
        due.is("one was dropped", x.late(0, 4), BAD);
        x.run(1);
        x.work(1, 0);
        due.is("one came later", x.late(0, 4), BAD);
        x.run(3);
        due.is("all are again", x.late(0, 4), 0);
    }

    private static void lateNoSuchWorkOrHour() {
        due.sentence("BAD: no such work, hour");
        ClosureHours x = Roads.road(6, 2, 1, 0);
        x.all();
        String before = Roads.seen(x);
        for (int none : Roads.NO_WORKS) {
            due.is("work " + none, x.late(none, 0), BAD);
        }
        for (int none : Roads.NO_HOURS) {
            due.is("hour " + none, x.late(0, none), BAD);
        }
        due.same("all", Roads.seen(x), before);
        due.is("the last work and hour", x.late(1, 5), 0);
        due.same("starts", Roads.starts(x), "0 5");
    }

    private static void lateOpenOrClosed() {
        due.sentence("late: BAD: it is OPEN or CLOSED: all stays.");
        for (int state = 0; state <= 4; state++) {
            ClosureHours x = Roads.two(6);
            x.all();
            Roads.bring(x, 0, state);
            String before = Roads.seen(x);
            due.is("an hour that it keeps, in state " + state, x.late(0, 0), state <= 2 ? 0 : BAD);
            due.is("later, in state " + state, x.late(0, 1), state <= 2 ? 0 : BAD);
            due.is("it was moved", !before.equals(Roads.seen(x)), state <= 2);
        }
    }

    private static void movedByNumber() {
        due.sentence("The k-th work (by its number) whose start became another one");
        ClosureHours x = Roads.road(6, 4, 1, 0);
        x.run(3);
        x.run(1);
        x.all();
        due.same("0 and 2 of four", Roads.moved(x), "0 2 -1 -1 -1");
        for (int w = 0; w < 4; w++) {
            x.event(w, 0, true);
        }
        x.all();
        due.same("four", Roads.moved(x), "0 1 2 3 -1");
        x.run(2);
        x.event(3, 1, true);
        x.event(1, 1, true);
        x.all();
        due.same("1 and 3 of four", Roads.moved(x), "1 3 -1 -1 -1");
    }

    private static void movedNoneSuch() {
        due.sentence("moved: BAD: none such.");
        ClosureHours x = Roads.road(6, 4, 1, 0);
        x.all();
        for (int k : new int[] {LOW, -2, -1, 4, 5, 32, HIGH}) {
            due.is("moved(" + k + ") of four", x.moved(k), BAD);
        }
        due.is("the last of four", x.moved(3), 3);
        x.drop(3);
        due.is("the last of one", x.moved(0), 3);
        for (int k : new int[] {LOW, -1, 1, 2, 3, 4, HIGH}) {
            due.is("moved(" + k + ") of one", x.moved(k), BAD);
        }
    }

    private static void movedNothing() {
        due.sentence("whose start became another one in the last: none did");
        ClosureHours x = Roads.two(6);
        due.is("no call yet", x.moved(0), BAD);
        x.all();
        due.is("all again", x.all(), 0);
        due.is("all moved none", x.moved(0), BAD);
        x.event(0, 0, true);
        x.run(0);
        due.is("run again", x.run(0), 1);
        due.is("run moved none", x.moved(0), BAD);
        x.late(0, 2);
        due.is("late again", x.late(0, 2), 0);
        due.is("late moved none", x.moved(0), BAD);
    }

    private static void movedInEachCall() {
        due.sentence("in the last run(), drop(), all() or late()");
        ClosureHours x = Roads.road(6, 3, 2, 0);
        Roads.allNear(x);
        x.run(2);
        due.same("run", Roads.moved(x), "2 -1 -1 -1 -1");
        x.all();
        due.same("all", Roads.moved(x), "0 1 2 -1 -1");
        x.late(0, 1);
        due.same("late", Roads.starts(x) + ": " + Roads.moved(x), "2 0 4: 0 1 -1 -1 -1");
        x.drop(1);
        due.same("drop", Roads.moved(x), "1 -1 -1 -1 -1");
    }

    private static void movedNotRefused() {
        due.sentence("the last run(), drop(), all() or late() that was not refused");
        ClosureHours x = Roads.two(6);
        x.all();
        x.late(1, 1);
        due.is("late of no work", x.late(2, 0), BAD);
        due.same("a refused late", Roads.moved(x), "1 -1 -1 -1 -1");
        due.is("run of no work", x.run(2), NONE);
        due.same("a refused run", Roads.moved(x), "1 -1 -1 -1 -1");
        due.no("drop of no work", x.drop(2));
        due.same("a refused drop", Roads.moved(x), "1 -1 -1 -1 -1");
        x.noise(0, 0, 5);
        due.is("all without a plan", x.all(), BAD);
        due.same("a refused all", Roads.moved(x), "1 -1 -1 -1 -1");
        due.is("late without a plan", x.late(0, 0), BAD);
        due.same("another refused late", Roads.moved(x), "1 -1 -1 -1 -1");
        due.is("run without a start", x.run(0), -5);
        due.same("a run that places nothing", Roads.moved(x), "1 -1 -1 -1 -1");
        Roads.bring(x, 0, 3);
        due.is("run of an OPEN one", x.run(0), NONE);
        due.no("drop of an OPEN one", x.drop(0));
        due.same("run and drop of an OPEN one", Roads.moved(x), "1 -1 -1 -1 -1");
    }
}
