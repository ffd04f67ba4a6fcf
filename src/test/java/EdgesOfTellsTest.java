/** The boundary cases of promises 18 to 20 and of Terms IV about THE LOG. */
public final class EdgesOfTellsTest {
    private static final Due due = new Due();
    private static final int LEAST = Integer.MIN_VALUE;
    private static final int GREATEST = Integer.MAX_VALUE;

    public static void main(String[] args) {
        ofAheadOfAny();
        ofNoSuchProgram();
        ofNothingElse();
        ofHowItIs();
        ofWhoRanLatest();
        placeOfTheNextAct();
        placeOfOneThatFailed();
        placeOfOneThatEnded();
        makesThatAreOver();
        costsOfAllAndSince();
        nowWhenItEnded();
        ticksYet();
        countOfNothingElse();
        countAheadOfAny();
        countOfWhatRanLatest();
        countOfProgramsAndRows();
        countWhetherItRuns();
        logOfNothing();
        logOfNoSuchEntry();
        logOfNothingElse();
        logOfSixty();
        logOfSixtyOne();
        logGoesRoundAgain();
        logAnew();
        toldWithZero();
        due.end();
    }

    private static void ofAheadOfAny() {
        due.sentence("18: of a PROGRAM that RUNS, or ran latest (none did)");
        RoomDealer x = new RoomDealer();
        due.is("no PROGRAM", x.of(0, 0), -2);
        Due.program(x, Due.MARK, 1, 0, 1);
        x.deal();
        for (int what = 0; what <= 12; what++) {
            due.is("of(0, " + what + ")", x.of(0, what), -2);
        }
    }

    private static void ofNoSuchProgram() {
        due.sentence("18: -2 for others (PROGRAMS)");
        RoomDealer x = new RoomDealer();
        Due.program(x, Due.MARK, 1, 0, 1);
        Due.program(x, Due.MARK, 1, 0, 1);
        x.begin();
        due.is("of(1, 1)", x.of(1, 1), 8);
        for (int program : new int[] {-1, 2, 5, 6, LEAST, GREATEST}) {
            for (int what = 0; what <= 12; what++) {
                due.is("of(" + program + ", " + what + ")", x.of(program, what), -2);
            }
        }
    }

    private static void ofNothingElse() {
        due.sentence("18: -2 for others (what)");
        RoomDealer x = new RoomDealer();
        Due.program(x, Due.MARK, 1, 0, 1);
        x.begin();
        due.is("of(0, 12)", x.of(0, 12), 0);
        for (int what : new int[] {-1, 13, LEAST, GREATEST}) {
            due.is("of(0, " + what + ")", x.of(0, what), -2);
        }
    }

    private static void ofHowItIs() {
        due.sentence("18: 0 READY, 1 BUSY, 2 ASLEEP, 3 ENDED, 4 FAILED");
        RoomDealer x = Due.with(4, 4, 0, 1000, 0);
        Due.program(x, Due.MARK, 1, 0, 4, -1, 4, 1002);
        x.begin();
        int[] want = {0, 0, 0, 1, 1, 0, 0, 2, 3};
        for (int now = 0; now < want.length; now++) {
            due.is("at " + now, x.of(0, 0), want[now]);
            x.run(1);
        }
        RoomDealer y = EdgesOfAskingTest.leaker(2);
        y.begin();
        y.run(21);
        due.is("FAILED", y.of(0, 0), 4);
    }

    private static void ofWhoRanLatest() {
        due.sentence("18: or ran latest (PROGRAMS that came since are others)");
        RoomDealer x = new RoomDealer();
        Due.program(x, Due.MARK, 1, 0, 5, 0);
        x.begin();
        x.run(1);
        x.stop();
        Due.program(x, Due.MARK, 1, 0, 7);
        x.terms(1, 64, 0, 1, 1);
        due.same("what was told", Due.allOf(x, 0), "0 8 5 5 0 1 1 0 0 -1 0 0 0");
        due.is("a new one", x.of(1, 0), -2);
        x.begin();
        due.is("a new one that RUNS", x.of(1, 1), 7);
    }

    private static void placeOfTheNextAct() {
        due.sentence("18: 5 the place of its next ACT in its ROW");
        RoomDealer x = Due.with(4, 4, 0, 1000, 0);
        Due.program(x, Due.MARK, 2, 0, 0, 4, -1, 0);
        x.begin();
        int[] want = {0, 1, 2, 3, 0, 1, 1, 1, 1, 2, 3, -2};
        for (int now = 0; now < want.length; now++) {
            due.is("at " + now, x.of(0, 5), want[now]);
            x.run(1);
        }
    }

    private static void placeOfOneThatFailed() {
        due.sentence("18: 5 (of one that FAILED of that at which it did)");
        RoomDealer x = Due.with(1, 14, 0, 4, 6);
        Due.program(x, Due.MARK, 5, 0, 0, 1, 1003);
        EdgesOfAskingTest.taker(x);
        EdgesOfAskingTest.endsIn(x, 1, 2);
        x.begin();
        x.run(21);
        due.same("ahead", Due.allOf(x, 0), "0 4 4 4 4 1 4 0 0 -1 1 0 0");
        due.is("NOW", x.run(2000), 22);
        due.same("FAILED", Due.allOf(x, 0), "4 0 0 0 4 1 4 0 0 22 1 0 0");
    }

    private static void placeOfOneThatEnded() {
        due.sentence("18: 5 (-2 of one that ENDED)");
        RoomDealer x = new RoomDealer();
        Due.program(x, Due.MARK, 1, 0, 1);
        x.begin();
        due.is("ahead", x.of(0, 5), 0);
        x.run(1);
        due.is("ENDED", x.of(0, 5), -2);
        x.stop();
        due.is("stopped", x.of(0, 5), -2);
    }

    private static void makesThatAreOver() {
        due.sentence("18: 6 MAKES");
        RoomDealer x = Due.with(4, 4, 0, 1000, 0);
        Due.program(x, Due.MARK, 2, 0, 4, -1);
        x.begin();
        int[] want = {0, 1, 1, 1, 1, 1, 2, 2};
        for (int now = 0; now < want.length; now++) {
            due.is("at " + now, x.of(0, 6), want[now]);
            x.run(1);
        }
        due.is("ENDED", x.of(0, 0), 3);
    }

    private static void costsOfAllAndSince() {
        due.sentence("18: 7 the costs of all that it COLLECTED, 8 of those since the latest REDEAL");
        RoomDealer x = Due.with(4, 4, 0, 7, 0);
        Due.program(x, Due.MARK, 3, 0, 4, -1);
        x.begin();
        int[] all = {0, 0, 0, 3, 3, 3, 3, 3, 6, 6};
        int[] since = {0, 0, 0, 3, 3, 3, 3, 0, 3, 3};
        for (int now = 0; now < all.length; now++) {
            due.is("all at " + now, x.of(0, 7), all[now]);
            due.is("since at " + now, x.of(0, 8), since[now]);
            x.run(1);
        }
    }

    private static void nowWhenItEnded() {
        due.sentence("18: 9 NOW when it ENDED or FAILED (NONE)");
        RoomDealer x = EdgesOfAskingTest.leaker(2);
        x.begin();
        due.is("at 0", x.of(0, 9), -1);
        x.run(20);
        due.is("PROGRAM 0 at 20", x.of(0, 9), -1);
        due.is("PROGRAM 1", x.of(1, 9), 15);
        due.is("PROGRAM 2", x.of(2, 9), 1);
        x.run(9);
        due.is("PROGRAM 0", x.of(0, 9), 21);
    }

    private static void ticksYet() {
        due.sentence("18: 12 TICKS for which it is BUSY or ASLEEP yet (0)");
        RoomDealer x = Due.with(4, 4, 0, 1000, 0);
        Due.program(x, Due.MARK, 1, 0, 4, -1, 4, 1003, 0);
        x.begin();
        int[] want = {0, 0, 0, 2, 1, 0, 0, 2, 1, 0, 0};
        for (int now = 0; now < want.length; now++) {
            due.is("at " + now, x.of(0, 12), want[now]);
            x.run(1);
        }
        due.is("ENDED", x.of(0, 0), 3);
    }

    private static void countOfNothingElse() {
        due.sentence("19: NONE for others");
        RoomDealer x = new RoomDealer();
        due.is("count(11)", x.count(11), 0);
        for (int what : new int[] {-1, 12, LEAST, GREATEST}) {
            due.is("count(" + what + ")", x.count(what), -1);
        }
    }

    private static void countAheadOfAny() {
        due.sentence("19: 0 ahead of any");
        RoomDealer x = new RoomDealer();
        Due.program(x, Due.MARK, 1, 0, 1);
        x.deal();
        for (int what = 7; what <= 10; what++) {
            due.is("count(" + what + ")", x.count(what), 0);
        }
        x.terms(8, 8, 8, 1, 1);
        due.is("a vain begin()", x.begin(), false);
        due.is("the POOL", x.count(8), 0);
    }

    private static void countOfWhatRanLatest() {
        due.sentence("19: 7 to 10 of what RUNS, or ran latest");
        RoomDealer x = Due.with(4, 16, 4, 3, 0);
        Due.program(x, Due.MARK, 1, 0, 8, 1009);
        x.begin();
        sameCounts("begun", x, 0, 8, 0, 0);
        x.run(4);
        sameCounts("at 4", x, 4, 8, 1, 1);
        x.stop();
        x.terms(8, 64, 0, 1, 1);
        sameCounts("stopped", x, 4, 8, 1, 1);
        x.clear();
        sameCounts("cleared", x, 4, 8, 1, 1);
        Due.program(x, Due.MARK, 1, 0, 8);
        x.begin();
        sameCounts("another one", x, 0, 56, 0, 0);
    }

    private static void sameCounts(String when, RoomDealer x, int now, int pool, int kept, int came) {
        due.is(when + ": NOW", x.count(7), now);
        due.is(when + ": the POOL", x.count(8), pool);
        due.is(when + ": entries kept", x.count(9), kept);
        due.is(when + ": all that came", x.count(10), came);
    }

    private static void countOfProgramsAndRows() {
        due.sentence("19: 0 PROGRAMS, 11 SLOTS that have a row (none, all)");
        RoomDealer x = new RoomDealer();
        for (int i = 0; i < 6; i++) {
            due.is("PROGRAMS", x.count(0), i);
            Due.program(x, Due.MARK, 1, 0, 0);
        }
        due.is("PROGRAMS", x.count(0), 6);
        for (int slot = 0; slot < 4; slot++) {
            x.row(slot, 0, 0);
            due.is("SLOTS that have a row, of no numbers too", x.count(11), slot + 1);
        }
        x.row(3, 1, 9);
        due.is("SLOTS that have a row", x.count(11), 4);
        x.tear(0);
        due.is("SLOTS that have a row", x.count(11), 3);
    }

    private static void countWhetherItRuns() {
        due.sentence("19: 6 whether it RUNS (1, 0)");
        RoomDealer x = new RoomDealer();
        Due.program(x, Due.MARK, 1, 0, 0);
        due.is("ahead", x.count(6), 0);
        x.begin();
        due.is("begun", x.count(6), 1);
        x.run(2000);
        due.is("all have ENDED", x.count(6), 1);
        x.stop();
        due.is("stopped", x.count(6), 0);
        x.begin();
        x.clear();
        due.is("cleared", x.count(6), 0);
    }

    private static void logOfNothing() {
        due.sentence("20: -2 for others (there is no entry)");
        RoomDealer x = new RoomDealer();
        due.is("ahead of any", x.log(0, 0), -2);
        Due.program(x, Due.MARK, 1, 0, 0, 0);
        x.begin();
        x.run(1);
        due.is("nothing was told yet", x.log(0, 0), -2);
        x.run(1);
        due.is("the first", x.log(0, 0), 2);
    }

    /** COLLECTS, for 1, in every third TICK: entry k, of all that came, is at NOW 3 * (k + 1). */
    private static RoomDealer teller(int entries) {
        RoomDealer x = Due.with(2, 4, 2, 1000, 0);
        Due.program(x, Due.COPY, 40, 0, 1, -1, 1, -1, 1, -1, 1, -1);
        x.begin();
        x.run(3 * entries);
        due.is("all that came", x.count(10), entries);
        return x;
    }

    private static void logOfNoSuchEntry() {
        due.sentence("20: -2 for others (entries)");
        RoomDealer x = teller(2);
        due.is("the second", x.log(1, 0), 6);
        for (int i : new int[] {-1, 2, 59, 60, LEAST, GREATEST}) {
            for (int what = 0; what <= 3; what++) {
                due.is("log(" + i + ", " + what + ")", x.log(i, what), -2);
            }
        }
    }

    private static void logOfNothingElse() {
        due.sentence("20: -2 for others (what)");
        RoomDealer x = teller(2);
        due.is("how much", x.log(0, 3), 1);
        for (int what : new int[] {-1, 4, LEAST, GREATEST}) {
            due.is("log(0, " + what + ")", x.log(0, what), -2);
        }
    }

    private static void logOfSixty() {
        due.sentence("IV, 20: THE LOG has the latest 60; entry i (0 the earliest that is kept): as many came");
        RoomDealer x = teller(59);
        due.is("kept", x.count(9), 59);
        due.is("the earliest", x.log(0, 0), 3);
        due.is("the latest", x.log(58, 0), 177);
        due.is("beyond it", x.log(59, 0), -2);
        x.run(3);
        due.is("kept", x.count(9), 60);
        due.is("all that came", x.count(10), 60);
        due.is("the earliest", x.log(0, 0), 3);
        due.is("the latest", x.log(59, 0), 180);
        due.is("beyond it", x.log(60, 0), -2);
    }

    private static void logOfSixtyOne() {
        due.sentence("IV, 20: THE LOG has the latest 60; entry i (0 the earliest that is kept): one more came");
        RoomDealer x = teller(61);
        due.is("kept", x.count(9), 60);
        due.is("the earliest", x.log(0, 0), 6);
        due.is("the one behind it", x.log(1, 0), 9);
        due.is("the latest but one", x.log(58, 0), 180);
        due.is("the latest", x.log(59, 0), 183);
        due.is("beyond it", x.log(60, 0), -2);
    }

    private static void logGoesRoundAgain() {
        due.sentence("IV, 20: THE LOG has the latest 60 (twice as many came, and one more)");
        for (int entries = 119; entries <= 121; entries++) {
            RoomDealer x = teller(entries);
            due.is("kept", x.count(9), 60);
            for (int i = 0; i < 60; i += 59) {
                due.is("NOW", x.log(i, 0), 3 * (entries - 60 + i + 1));
                due.is("the PROGRAM", x.log(i, 1), 0);
                due.is("what", x.log(i, 2), 0);
                due.is("how much", x.log(i, 3), 1);
            }
        }
    }

    private static void logAnew() {
        due.sentence("15, 20: it RUNS, anew (THE LOG too)");
        RoomDealer x = teller(61);
        x.begin();
        due.is("kept", x.count(9), 0);
        due.is("all that came", x.count(10), 0);
        due.is("log(0, 0)", x.log(0, 0), -2);
        x.run(3);
        due.is("the first", x.log(0, 0), 3);
        due.is("log(1, 0)", x.log(1, 0), -2);
    }

    private static void toldWithZero() {
        due.sentence("IV: 4 SQUEEZED, 5 woken, 6 ENDED (the ROOM that went to the POOL): 0");
        RoomDealer x = Due.with(8, 8, 0, 2, 0);
        Due.program(x, Due.MARK, 1, 0, 1003);
        x.begin();
        x.run(3);
        due.same("one without ROOM", Due.logOf(x), "2 0 4 0; 3 0 5 0; 3 0 6 0");
    }
}
