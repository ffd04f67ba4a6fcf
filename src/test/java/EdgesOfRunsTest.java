/** The boundary cases of promises 15 to 17 and of Terms IV about TICKS, ACTS, ROUNDS and LEAKERS. */
public final class EdgesOfRunsTest {
    private static final Due due = new Due();

    public static void main(String[] args) {
        beginGivesShares();
        beginAnew();
        beginWithoutPrograms();
        beginWhatCantBeDealt();
        beginInVainLeavesTheTale();
        stopLeavesWhatIsTold();
        stopOfNothing();
        runOneToTwoThousand();
        runEndsWithTheLastProgram();
        runEndsWithOneThatFailed();
        runOfAnotherN();
        runOfNothing();
        busyForOneTickLess();
        costOfOneLeavesItReady();
        sleepForOneIsOverAtOnce();
        sleepForMore();
        oneActATick();
        justFits();
        collectsOnlyIfUsedIsAboveLive();
        programByProgram();
        roundIsOver();
        lastRoundEnds();
        whoEndsHasNothing();
        leakerBehindFourRounds();
        leakerByThreeRisesAlone();
        leakerStaysOne();
        leakerFoundOutAsItEnds();
        due.end();
    }

    private static void beginGivesShares() {
        due.sentence("IV, 15: NOW is 0, SHARE as ROOM, READY; the POOL has what is left of ALL");
        RoomDealer x = Due.with(4, 40, 8, 1000, 0);
        Due.program(x, Due.MARK, 1, 0, 5);
        Due.program(x, Due.COPY, 1, 9, 1);
        Due.program(x, Due.COPY, 1, 0, 0);
        due.is("begin()", x.begin(), true);
        due.is("whether it RUNS", x.count(6), 1);
        due.is("NOW", x.count(7), 0);
        due.is("the POOL, with the RESERVE", x.count(8), 40 - 8 - 12);
        due.same("PROGRAM 0", Due.allOf(x, 0), "0 8 0 0 0 0 0 0 0 -1 0 0 0");
        due.same("PROGRAM 1", Due.allOf(x, 1), "0 12 0 0 0 0 0 0 0 -1 0 0 0");
        due.same("PROGRAM 2", Due.allOf(x, 2), "0 0 0 0 0 0 0 0 0 -1 0 0 0");
        RoomDealer y = Due.with(4, 8, 0, 1000, 0);
        Due.program(y, Due.MARK, 1, 0, 8);
        y.begin();
        due.is("nothing is left", y.count(8), 0);
    }

    private static void beginAnew() {
        due.sentence("15: it RUNS, anew (while it RUNS, behind its end, behind stop())");
        RoomDealer x = Due.with(4, 12, 0, 2, 1);
        Due.program(x, Due.MARK, 5, 0, 2, 1002);
        x.begin();
        for (int ahead : new int[] {1, 14, 2000, 0}) {
            if (ahead == 0) {
                x.stop();
            } else {
                x.run(ahead);
            }
            due.is("begin()", x.begin(), true);
            due.is("whether it RUNS", x.count(6), 1);
            due.is("NOW", x.count(7), 0);
            due.is("the POOL", x.count(8), 0);
            due.is("entries kept", x.count(9), 0);
            due.is("entries that came", x.count(10), 0);
            due.same("PROGRAM 0", Due.allOf(x, 0), "0 12 0 0 0 0 0 0 0 -1 0 0 0");
        }
        due.is("to the end", x.run(2000), 15);
        RoomDealer y = Due.with(4, 4, 0, 1000, 0);
        Due.program(y, Due.MARK, 2, 0, 4, -1);
        y.begin();
        y.run(4);
        due.is("costs", y.of(0, 7), 3);
        y.begin();
        due.same("one that had COLLECTED and was BUSY", Due.allOf(y, 0), "0 4 0 0 0 0 0 0 0 -1 0 0 0");
    }

    private static void beginWithoutPrograms() {
        due.sentence("15: false: there are no PROGRAMS");
        RoomDealer x = new RoomDealer();
        due.is("begin()", x.begin(), false);
        due.is("whether it RUNS", x.count(6), 0);
        due.is("run(1)", x.run(1), -9);
        Due.program(x, Due.MARK, 1, 0, 1);
        x.begin();
        x.clear();
        due.is("begin() behind clear()", x.begin(), false);
        due.is("whether it RUNS", x.count(6), 0);
    }

    private static void beginWhatCantBeDealt() {
        due.sentence("15: false: nothing can be dealt");
        RoomDealer x = Due.with(8, 16, 8, 1, 0);
        Due.program(x, Due.MARK, 1, 0, 9);
        due.is("NEED is a STEP above what is DEALT", x.begin(), false);
        due.is("whether it RUNS", x.count(6), 0);
        due.is("of(0, 0)", x.of(0, 0), -2);
        x.terms(8, 16, 0, 1, 0);
        due.is("NEED is what is DEALT", x.begin(), true);
    }

    private static void beginInVainLeavesTheTale() {
        due.sentence("15: false, and nothing happens (but as by deal())");
        RoomDealer x = Due.with(8, 16, 0, 3, 0);
        Due.program(x, Due.MARK, 1, 0, 9, 1009);
        x.begin();
        x.run(5);
        x.stop();
        String told = Due.allOf(x, 0);
        x.terms(8, 8, 0, 1, 0);
        due.is("begin()", x.begin(), false);
        due.is("SHARE, as by deal()", x.share(0), -1);
        due.is("whether it RUNS", x.count(6), 0);
        due.same("of()", Due.allOf(x, 0), told);
        due.is("NOW", x.count(7), 5);
        due.is("the POOL", x.count(8), 0);
        due.same("the LOG", Due.logOf(x), "3 0 4 0");
        due.is("run(1)", x.run(1), -9);
    }

    private static void stopLeavesWhatIsTold() {
        due.sentence("16: it RUNS no more (what is told of it stays)");
        RoomDealer x = Due.with(8, 24, 0, 3, 0);
        Due.program(x, Due.MARK, 1, 0, 9, 1009);
        x.begin();
        x.run(5);
        String told = Due.allOf(x, 0);
        due.is("stop()", x.stop(), true);
        due.is("whether it RUNS", x.count(6), 0);
        due.same("of()", Due.allOf(x, 0), told);
        due.is("NOW", x.count(7), 5);
        due.is("the POOL", x.count(8), 8);
        due.same("the LOG", Due.logOf(x), "3 0 4 0");
        due.is("SHARE", x.share(0), 16);
        due.is("a PROGRAM that came since", x.program(0, 1, 1, 0), 1);
        due.is("of() of that", x.of(1, 0), -2);
        due.same("of() yet", Due.allOf(x, 0), told);
    }

    private static void stopOfNothing() {
        due.sentence("16: false: it did not");
        RoomDealer x = new RoomDealer();
        due.is("ahead of any begin()", x.stop(), false);
        due.is("in vain", x.begin(), false);
        due.is("behind that", x.stop(), false);
        Due.program(x, Due.MARK, 1, 0, 0);
        x.begin();
        x.run(9);
        due.is("all have ENDED: it RUNS yet", x.stop(), true);
        due.is("stopped twice", x.stop(), false);
        x.begin();
        x.clear();
        due.is("behind clear()", x.stop(), false);
    }

    private static void runOneToTwoThousand() {
        due.sentence("17: TICKS, n (1 .. 2000) at most: NOW");
        RoomDealer x = new RoomDealer();
        Due.program(x, Due.MARK, 40, 0, 1200);
        x.begin();
        due.is("run(1)", x.run(1), 1);
        due.is("run(2000)", x.run(2000), 2001);
        due.is("run(1999)", x.run(1999), 4000);
        due.is("run(2000)", x.run(2000), 6000);
        due.is("run(2000)", x.run(2000), 8000);
        due.is("it has ENDED", x.of(0, 9), 8000);
    }

    private static void runEndsWithTheLastProgram() {
        due.sentence("17: as long as some PROGRAM has neither ENDED nor FAILED");
        RoomDealer x = new RoomDealer();
        Due.program(x, Due.MARK, 1, 0, 0, 0, 0);
        Due.program(x, Due.MARK, 1, 0, 1007);
        x.begin();
        due.is("one TICK short of the end", x.run(6), 6);
        due.is("more than are left", x.run(2000), 7);
        due.is("none is left", x.run(1), 7);
        due.is("none is left", x.run(2000), 7);
        due.is("NOW", x.count(7), 7);
        due.is("whether it RUNS", x.count(6), 1);
        x.begin();
        due.is("just as many as there are", x.run(7), 7);
        due.is("it has ENDED", x.of(1, 0), 3);
    }

    private static void runEndsWithOneThatFailed() {
        due.sentence("17: as long as some PROGRAM has neither ENDED nor FAILED (the last one FAILED)");
        RoomDealer x = EdgesOfAskingTest.leaker(2);
        x.begin();
        due.is("run(20)", x.run(20), 20);
        due.is("run(2000)", x.run(2000), 21);
        due.is("how it is", x.of(0, 0), 4);
        due.is("none is left", x.run(2000), 21);
    }

    private static void runOfAnotherN() {
        due.sentence("17: -2: another n");
        RoomDealer x = new RoomDealer();
        Due.program(x, Due.MARK, 1, 0, 1009);
        x.begin();
        for (int n : new int[] {0, 2001, -1, Integer.MIN_VALUE, Integer.MAX_VALUE}) {
            due.is("run(" + n + ")", x.run(n), -2);
        }
        due.is("NOW", x.count(7), 0);
        x.run(2000);
        due.is("all have ENDED", x.run(0), -2);
        x.stop();
        due.is("-2 ahead of -9", x.run(0), -2);
    }

    private static void runOfNothing() {
        due.sentence("17: -9: nothing RUNS");
        RoomDealer x = new RoomDealer();
        due.is("ahead of any begin()", x.run(1), -9);
        Due.program(x, Due.MARK, 1, 0, 1009);
        due.is("ahead of begin()", x.run(2000), -9);
        x.begin();
        x.run(2);
        x.stop();
        due.is("stopped", x.run(1), -9);
        due.is("NOW stays", x.count(7), 2);
    }

    /** By 4 it is COLLECTED for 1 and 0 and 4 / 2, in the third TICK. */
    private static void busyForOneTickLess() {
        due.sentence("IV: it COLLECTS, and is BUSY for one TICK less than that costs; BUSY: for one TICK less");
        RoomDealer x = Due.with(4, 4, 0, 1000, 0);
        Due.program(x, Due.MARK, 2, 0, 4, -1);
        x.begin();
        x.run(2);
        due.same("at 2", Due.allOf(x, 0), "0 4 4 0 1 0 1 0 0 -1 0 0 0");
        x.run(1);
        due.same("at 3", Due.allOf(x, 0), "1 4 0 0 1 0 1 3 3 -1 0 0 2");
        x.run(1);
        due.same("at 4", Due.allOf(x, 0), "1 4 0 0 1 0 1 3 3 -1 0 0 1");
        x.run(1);
        due.same("at 5", Due.allOf(x, 0), "0 4 0 0 1 0 1 3 3 -1 0 0 0");
        x.run(1);
        due.same("at 6 the ACT is tried again", Due.allOf(x, 0), "0 4 4 4 1 1 2 3 3 -1 0 0 0");
        due.is("its end, TIME by 4", x.run(9), x.time(0, 4));
    }

    private static void costOfOneLeavesItReady() {
        due.sentence("IV: (READY if none; the ACT is tried again then)");
        RoomDealer x = Due.with(2, 2, 0, 1000, 0);
        Due.program(x, Due.COPY, 2, 0, 1, -1);
        x.begin();
        x.run(3);
        due.same("at 3, cost 1", Due.allOf(x, 0), "0 2 0 0 1 0 1 1 1 -1 0 0 0");
        x.run(1);
        due.same("at 4 it is tried again", Due.allOf(x, 0), "0 2 1 1 1 1 2 1 1 -1 0 0 0");
        RoomDealer y = Due.with(2, 2, 0, 1000, 0);
        Due.program(y, Due.MARK, 2, 0, 2, -1);
        y.begin();
        y.run(3);
        due.same("cost 2: BUSY for 1", Due.allOf(y, 0), "1 2 0 0 1 0 1 2 2 -1 0 0 1");
    }

    private static void sleepForOneIsOverAtOnce() {
        due.sentence("IV: SLEEP for 1 is over at once");
        RoomDealer x = Due.with(8, 8, 0, 1, 9);
        Due.program(x, Due.MARK, 1, 0, 1001, 0);
        x.begin();
        x.run(1);
        due.same("at 1", Due.allOf(x, 0), "0 0 0 0 0 1 0 0 0 -1 0 0 0");
        due.is("it was not SQUEEZED at the REDEAL", x.count(10), 0);
    }

    private static void sleepForMore() {
        due.sentence("IV: SLEEP for more: ASLEEP for one less; if that was the last its ACT is over");
        RoomDealer x = Due.with(8, 8, 0, 1000, 0);
        Due.program(x, Due.MARK, 1, 0, 1002, 1003, 0);
        x.begin();
        String[] want = {
            "2 0 0 0 0 0 0 0 0 -1 0 0 1",
            "0 0 0 0 0 1 0 0 0 -1 0 0 0",
            "2 0 0 0 0 1 0 0 0 -1 0 0 2",
            "2 0 0 0 0 1 0 0 0 -1 0 0 1",
            "0 0 0 0 0 2 0 0 0 -1 0 0 0",
            "3 0 0 0 1 -2 0 0 0 6 0 0 0",
        };
        for (int now = 1; now <= want.length; now++) {
            due.is("NOW", x.run(1), now);
            due.same("at " + now, Due.allOf(x, 0), want[now - 1]);
        }
        RoomDealer y = new RoomDealer();
        Due.program(y, Due.MARK, 1, 0, 1200, 0);
        y.begin();
        y.run(1);
        due.is("the longest: TICKS yet", y.of(0, 12), 199);
        y.run(198);
        due.is("TICKS yet", y.of(0, 12), 1);
        y.run(1);
        due.is("READY", y.of(0, 0), 0);
    }

    private static void oneActATick() {
        due.sentence("IV: MAKE that FITS, DIES, 0 are over at once (one in each TICK)");
        RoomDealer x = Due.with(8, 8, 0, 1000, 0);
        Due.program(x, Due.MARK, 1, 0, 5, -1, 0, 3);
        x.begin();
        int[] used = {5, 5, 5};
        int[] live = {5, 0, 0};
        for (int i = 0; i < 3; i++) {
            x.run(1);
            due.is("the place of its next ACT", x.of(0, 5), i + 1);
            due.is("USED", x.of(0, 2), used[i]);
            due.is("LIVE", x.of(0, 3), live[i]);
        }
        due.is("its end", x.run(9), 4);
        due.is("MAKES", x.of(0, 6), 2);
        due.is("costs", x.of(0, 7), 0);
    }

    private static void justFits() {
        due.sentence("II, IV: MAKE that FITS (USED and v are just what the HEAP HOLDS, or one more)");
        for (int v = 4; v <= 5; v++) {
            RoomDealer x = Due.with(8, 8, 0, 1000, 0);
            Due.program(x, Due.MARK, 1, 0, 4, -1, v, 0);
            x.begin();
            x.run(3);
            due.is("MAKES", x.of(0, 6), v == 4 ? 2 : 1);
            due.is("costs", x.of(0, 7), v == 4 ? 0 : 3);
        }
        for (int v = 2; v <= 3; v++) {
            RoomDealer x = Due.with(9, 9, 0, 1000, 0);
            Due.program(x, Due.COPY, 1, 0, 2, -1, v, 0);
            x.begin();
            x.run(3);
            due.is("COPY, 9 HOLDS 4: MAKES", x.of(0, 6), v == 2 ? 2 : 1);
            due.is("costs", x.of(0, 7), v == 2 ? 0 : 1);
        }
    }

    /** Woken with 3 of its 6, 0 has USED 2, of which LIVE is 2 or 1. */
    private static void collectsOnlyIfUsedIsAboveLive() {
        due.sentence("IV: if USED is above LIVE it COLLECTS; else it ASKS");
        RoomDealer x = Due.with(1, 14, 0, 4, 4);
        Due.program(x, Due.MARK, 1, 0, 1005, 1, 1, 5);
        EdgesOfAskingTest.takerWithFloor(x);
        x.begin();
        x.run(8);
        due.same("as much: it ASKS", EdgesOfAskingTest.logFrom(x, 8),
                "8 1 3 1; 8 1 3 1; 8 1 3 1; 8 1 3 1; 8 0 1 4; 8 0 6 7");
        RoomDealer y = Due.with(1, 13, 0, 4, 3);
        Due.program(y, Due.MARK, 1, 0, 1005, 2, -1, 6);
        EdgesOfAskingTest.takerWithFloor(y);
        y.begin();
        y.run(8);
        due.same("above: it COLLECTS", Due.allOf(y, 0), "1 3 0 0 0 3 1 2 0 -1 0 0 1");
        y.run(2);
        due.same("and ASKS when it is tried again", EdgesOfAskingTest.logFrom(y, 8),
                "8 0 0 2; 10 1 3 1; 10 1 3 1; 10 1 3 1; 10 0 1 3; 10 0 6 6");
    }

    private static void programByProgram() {
        due.sentence("IV: then PROGRAM by PROGRAM, that has neither ENDED nor FAILED");
        RoomDealer x = Due.with(4, 64, 0, 1000, 0);
        for (int i = 0; i < 6; i++) {
            Due.program(x, Due.MARK, 1, 4 * i, 0);
        }
        x.begin();
        x.run(5);
        due.same("each ENDED once, in order", Due.logOf(x),
                "1 0 6 0; 1 1 6 4; 1 2 6 8; 1 3 6 12; 1 4 6 16; 1 5 6 20");
    }

    private static void roundIsOver() {
        due.sentence("IV: if it was the ROW's last a ROUND is over");
        RoomDealer x = new RoomDealer();
        Due.program(x, Due.MARK, 3, 0, 0, 1002);
        Due.program(x, Due.MARK, 3, 0, 1);
        x.begin();
        x.run(2);
        due.is("ASLEEP in the last: ROUNDS over", x.of(0, 4), 0);
        x.run(1);
        due.is("ROUNDS over", x.of(0, 4), 1);
        due.is("its next ACT is the first", x.of(0, 5), 0);
        due.is("a ROW of one: ROUNDS over", x.of(1, 4), 3);
        due.is("a ROW of one: its end", x.of(1, 9), 3);
    }

    private static void lastRoundEnds() {
        due.sentence("IV: if it was the last ROUND it ENDS");
        RoomDealer x = new RoomDealer();
        Due.program(x, Due.MARK, 2, 0, 3, -1);
        x.begin();
        x.run(3);
        due.same("ahead", Due.allOf(x, 0), "0 8 6 3 1 1 2 0 0 -1 0 0 0");
        x.run(1);
        due.same("it ENDED", Due.allOf(x, 0), "3 0 0 0 2 -2 2 0 0 4 0 0 0");
    }

    private static void whoEndsHasNothing() {
        due.sentence("IV: who ENDS has nothing any more, and its ROOM goes to the POOL");
        RoomDealer x = Due.with(8, 48, 8, 1000, 0);
        Due.program(x, Due.MARK, 1, 0, 16);
        Due.program(x, Due.COPY, 1, 0, 8, 0);
        x.begin();
        due.is("the POOL at 0", x.count(8), 16);
        x.run(1);
        due.same("0 ENDED", Due.allOf(x, 0), "3 0 0 0 1 -2 1 0 0 1 0 0 0");
        due.is("the POOL at 1", x.count(8), 32);
        x.run(1);
        due.same("1 ENDED", Due.allOf(x, 1), "3 0 0 0 1 -2 1 0 0 2 0 0 0");
        due.is("the POOL at 2", x.count(8), 48);
        due.same("the LOG", Due.logOf(x), "1 0 6 16; 2 1 6 16");
    }

    private static void leakerBehindFourRounds() {
        due.sentence("IV: LIVE was more at the end of each of the latest three ROUNDS than at that of the one ahead");
        RoomDealer x = Due.with(8, 8, 0, 1000, 0);
        Due.program(x, Due.MARK, 8, 0, 1);
        x.begin();
        x.run(3);
        due.is("1 2 3: the first has none ahead", x.of(0, 10), 0);
        x.run(1);
        due.is("1 2 3 4", x.of(0, 10), 1);
        due.same("the LOG", Due.logOf(x), "4 0 7 4");
    }

    private static void leakerByThreeRisesAlone() {
        due.sentence("IV: LIVE was more (not as much)");
        RoomDealer x = new RoomDealer();
        Due.program(x, Due.MARK, 40, 0, 1, -4);
        Due.program(x, Due.MARK, 40, 0, 1, -5);
        Due.program(x, Due.MARK, 40, 0, 1, -1);
        x.begin();
        x.run(79);
        due.is("1 2 3 3 ..", x.of(0, 10), 0);
        due.is("1 2 3 4 4 ..", x.of(1, 10), 1);
        due.is("0 0 ..", x.of(2, 10), 0);
        due.is("LIVE", x.of(0, 3), 4);
    }

    private static void leakerStaysOne() {
        due.sentence("IV: it is a LEAKER from now on");
        RoomDealer x = Due.with(64, 64, 0, 1000, 0);
        Due.program(x, Due.MARK, 20, 0, 1, -5);
        x.begin();
        for (int now = 8; now <= 38; now += 10) {
            x.run(now == 8 ? 8 : 10);
            due.is("at " + now, x.of(0, 10), 1);
        }
        x.run(2);
        due.is("ENDED", x.of(0, 10), 1);
        due.same("told once, with LIVE", Due.logOf(x), "8 0 7 4; 40 0 6 64");
        x.begin();
        due.is("anew", x.of(0, 10), 0);
    }

    private static void leakerFoundOutAsItEnds() {
        due.sentence("IV: it is a LEAKER; if it was the last ROUND it ENDS");
        RoomDealer x = Due.with(8, 8, 0, 1000, 0);
        Due.program(x, Due.MARK, 4, 0, 1);
        x.begin();
        x.run(4);
        due.same("the LOG", Due.logOf(x), "4 0 7 4; 4 0 6 8");
        due.is("LEAKER", x.of(0, 10), 1);
        x.clear();
        Due.program(x, Due.MARK, 3, 0, 1);
        x.begin();
        x.run(3);
        due.same("three ROUNDS are too few", Due.logOf(x), "3 0 6 8");
    }
}
