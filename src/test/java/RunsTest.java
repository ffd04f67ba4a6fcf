/** Promises 15 to 17, begin, stop, run, by runs that were worked out by hand. */
public final class RunsTest {
    private static final Due due = new Due();

    public static void main(String[] args) {
        beginsAndStops();
        beginsAnew();
        collectsAlone();
        asksSleepersThenTheRichest();
        leakerIsFoundAndFails();
        leakerWithinItsPart();
        noLeaker();
        squeezedSleeperCollects();
        wokenByWhatThePoolHas();
        wakesAtItsEnd();
        reserveIsKept();
        stepsMoveFromTheLeastLoss();
        noStepForAGreaterLoss();
        noStepForAnEqualLoss();
        copyCountsHalfSteps();
        aloneItTakesItsTime();
        due.end();
    }

    private static void beginsAndStops() {
        RoomDealer x = new RoomDealer();
        due.is("begin without programs", x.begin(), false);
        due.is("stop", x.stop(), false);
        Due.program(x, Due.MARK, 1, 0, 99);
        x.terms(8, 64, 0, 1, 1);
        due.is("begin that can't be dealt", x.begin(), false);
        due.is("nothing runs", x.count(6), 0);
        due.is("of", x.of(0, 0), -2);
        x.terms(8, 128, 0, 1, 1);
        due.is("begin", x.begin(), true);
        due.is("it runs", x.count(6), 1);
        due.is("its share is its room", x.of(0, 1), 104);
        due.is("the pool has what is left", x.count(8), 24);
        due.is("share by begin", x.share(0), 104);
        due.is("stop", x.stop(), true);
        due.is("it runs no more", x.count(6), 0);
        due.is("what is told stays", x.of(0, 1), 104);
        due.is("stop again", x.stop(), false);
        due.is("a program behind stop", x.program(0, 1, 1, 0), 1);
        due.is("did not run", x.of(1, 0), -2);
        due.is("a vain begin", x.begin(), false);
        due.is("changes nothing told", x.of(0, 1), 104);
        due.is("nothing runs", x.run(1), -9);
    }

    private static void beginsAnew() {
        RoomDealer x = new RoomDealer();
        x.terms(4, 12, 0, 2, 1);
        Due.program(x, Due.MARK, 5, 0, 2, 1002);
        x.begin();
        due.is("run", x.run(14), 14);
        due.same("ahead", Due.allOf(x, 0), "2 12 10 10 4 1 5 0 0 -1 1 1 1");
        due.is("begin while it runs", x.begin(), true);
        due.same("all is new", Due.allOf(x, 0), "0 12 0 0 0 0 0 0 0 -1 0 0 0");
        due.is("NOW", x.count(7), 0);
        due.is("the pool", x.count(8), 0);
        due.is("the log is empty", x.count(9), 0);
        due.is("the log is empty", x.count(10), 0);
        due.is("no entry", x.log(0, 0), -2);
    }

    /** BUSY for one tick less than it costs; a cost of 1 leaves it READY. */
    private static void collectsAlone() {
        RoomDealer x = new RoomDealer();
        x.terms(1, 2, 0, 1000, 0);
        Due.program(x, Due.MARK, 2, 0, 1, 1, -1, -2);
        x.begin();
        x.run(5);
        due.same("USED 2, LIVE 0: cost 2, BUSY for 1", Due.allOf(x, 0), "1 2 0 0 1 0 2 2 2 -1 0 0 1");
        x.run(1);
        due.same("READY, not yet made", Due.allOf(x, 0), "0 2 0 0 1 0 2 2 2 -1 0 0 0");
        x.run(1);
        due.same("made", Due.allOf(x, 0), "0 2 1 1 1 1 3 2 2 -1 0 0 0");
        due.is("run", x.run(9), 10);
        due.same("ended", Due.allOf(x, 0), "3 0 0 0 2 -2 4 2 2 10 0 0 0");
        due.same("log", Due.logOf(x), "5 0 0 2; 10 0 6 2");

        RoomDealer y = new RoomDealer();
        y.terms(2, 2, 0, 1000, 0);
        Due.program(y, Due.COPY, 2, 0, 1, -1);
        y.begin();
        y.run(3);
        due.same("cost 1: READY, the act is tried again", Due.allOf(y, 0), "0 2 0 0 1 0 1 1 1 -1 0 0 0");
        due.is("run", y.run(9), 5);
    }

    private static RoomDealer lenders() {
        RoomDealer x = new RoomDealer();
        x.terms(4, 68, 0, 6, 9);
        Due.program(x, Due.MARK, 1, 0, 1007, 12, 8);
        Due.program(x, Due.MARK, 2, 20, 16, -1);
        Due.program(x, Due.MARK, 1, 0, 4, -1, 0, 0, 0, 0, 1009);
        Due.program(x, Due.COPY, 1, 4, 4, 0, 0, 0, -1, 0, 1009);
        Due.program(x, Due.MARK, 1, 0, 16, -1, 0, 0, 0, 0, 0, 0, 0, 0, 0, 0);
        return x;
    }

    /**
     * 0 sleeps, is squeezed, and 1 takes what it lent; so 0 asks twice: first 2 and 3 give, that
     * are asleep (both have to collect), then 1 and 4, that spare 16 each (4 has to collect).
     */
    private static void asksSleepersThenTheRichest() {
        RoomDealer x = lenders();
        due.is("begin", x.begin(), true);
        due.same("needs alone", Due.shares(x, 5), "20 20 4 8 16");
        x.run(6);
        due.same("1 got four steps", Due.allOf(x, 1), "1 36 0 0 1 0 1 9 0 -1 0 0 5");
        due.is("pool", x.count(8), 4);
        x.run(1);
        due.same("0 is awake with less", Due.allOf(x, 0), "0 4 0 0 0 1 0 0 0 -1 0 0 0");
        due.is("pool", x.count(8), 0);
        x.run(1);
        due.same("0 has what it needs", Due.allOf(x, 0), "0 12 12 12 0 2 1 0 0 -1 0 0 0");
        due.same("2 gave and sleeps no longer for it", Due.allOf(x, 2), "2 0 0 0 0 6 1 3 3 -1 0 0 7");
        due.same("3 gave down to its floor", Due.allOf(x, 3), "2 4 0 0 0 6 1 1 1 -1 0 0 7");
        x.run(1);
        due.same("0 ended", Due.allOf(x, 0), "3 0 0 0 1 -2 2 0 0 9 0 0 0");
        due.same("1 gave a step", Due.allOf(x, 1), "1 32 0 0 1 0 1 9 0 -1 0 0 2");
        due.same("4 gave a step and is BUSY", Due.allOf(x, 4), "1 12 0 0 0 8 1 9 9 -1 0 0 8");
        due.is("pool", x.count(8), 20);
        due.same("log", Due.logOf(x), "3 1 0 9; 6 0 4 20; 6 1 8 4; 6 1 8 4; 6 1 8 4; 6 1 8 4; 7 0 5 4;"
                + " 8 2 0 3; 8 2 3 4; 8 3 0 1; 8 3 3 4; 8 0 1 8;"
                + " 9 1 3 4; 9 4 0 9; 9 4 3 4; 9 0 1 8; 9 0 6 20");
    }

    private static final String LEAKERS_LOG = "2 0 4 10; 4 0 5 10; 4 1 0 10;"
            + " 4 0 3 1; 4 1 8 1; 4 0 3 1; 4 1 8 1; 4 0 3 1; 4 1 8 1; 4 0 3 1; 4 1 8 1;"
            + " 4 0 3 1; 4 1 8 1; 4 0 3 1; 4 1 8 1; 4 0 3 1; 4 1 8 1; 4 0 3 1; 4 1 8 1;"
            + " 4 0 3 1; 4 1 8 1; 5 1 3 1; 5 0 1 1; 6 0 4 0; 8 0 5 0;"
            + " 9 1 3 1; 9 1 3 1; 9 0 1 2; 10 0 4 0; 12 0 5 0; 13 1 3 1; 13 1 3 1; 13 0 1 2;"
            + " 14 0 4 0; 15 1 6 11; 16 0 5 0; 16 0 7 8; 17 0 2 8";

    private static void leakerIsFoundAndFails() {
        RoomDealer x = new RoomDealer();
        x.terms(1, 19, 0, 1, 9);
        Due.program(x, Due.MARK, 6, 0, 2, 1003);
        Due.program(x, Due.MARK, 1, 0, 6, 1, -1, 1, -1);
        due.is("begin", x.begin(), true);
        x.run(4);
        due.same("0 gave nine steps", Due.allOf(x, 0), "0 3 2 2 1 0 1 0 0 -1 0 0 0");
        due.same("1 got them", Due.allOf(x, 1), "1 16 6 6 0 3 2 10 0 -1 0 0 9");
        x.run(12);
        due.same("0 is a leaker", Due.allOf(x, 0), "0 8 8 8 4 0 4 0 0 -1 1 0 0");
        due.is("the pool would do", x.count(8), 11);
        due.is("run", x.run(100), 17);
        due.same("0 failed", Due.allOf(x, 0), "4 0 0 0 4 0 4 0 0 17 1 0 0");
        due.is("all is in the pool", x.count(8), 19);
        due.same("log", Due.logOf(x), LEAKERS_LOG);
    }

    /** As above, but with as much more room in ALL (kept by a reserve) that its part is 10. */
    private static void leakerWithinItsPart() {
        RoomDealer x = new RoomDealer();
        x.terms(1, 20, 1, 1, 9);
        Due.program(x, Due.MARK, 6, 0, 2, 1003);
        Due.program(x, Due.MARK, 1, 0, 6, 1, -1, 1, -1);
        x.begin();
        x.run(17);
        due.same("0 asks for its part and gets it", Due.allOf(x, 0), "0 10 10 10 4 1 5 0 0 -1 1 0 0");
        due.is("run", x.run(100), 21);
        due.same("and fails for more", Due.allOf(x, 0), "4 0 0 0 5 0 5 0 0 21 1 0 0");
    }

    /** Three rises in a row, of rounds that have one ahead of them. */
    private static void noLeaker() {
        RoomDealer x = new RoomDealer();
        x.terms(8, 64, 0, 1000, 0);
        Due.program(x, Due.MARK, 5, 0, 1, -3);
        x.begin();
        due.is("run", x.run(2000), 10);
        due.is("LIVE 1 2 2 2 2", x.of(0, 10), 0);
        x.clear();
        Due.program(x, Due.MARK, 4, 0, 1);
        x.begin();
        x.run(3);
        due.is("three rounds: two have one ahead", x.of(0, 10), 0);
        x.run(1);
        due.same("found out as it ends", Due.logOf(x), "4 0 7 4; 4 0 6 8");
        due.is("it stays a leaker", x.of(0, 10), 1);
        x.clear();
        Due.program(x, Due.MARK, 9, 0, 1, 2, -1);
        x.begin();
        x.run(2000);
        due.same("told once", Due.logOf(x), "12 0 7 4; 27 0 6 32");
    }

    private static void squeezedSleeperCollects() {
        RoomDealer x = new RoomDealer();
        x.terms(4, 16, 0, 4, 0);
        Due.program(x, Due.COPY, 1, 0, 6, 2, -2, 1010, 1);
        x.begin();
        due.is("share", x.share(0), 16);
        x.run(4);
        due.same("2 LIVE cells keep 4", Due.allOf(x, 0), "2 4 2 2 0 3 2 5 0 -1 0 1 9");
        due.is("pool", x.count(8), 12);
        x.run(8);
        due.is("not squeezed again", x.count(10), 2);
        x.run(1);
        due.same("awake, with its room", Due.allOf(x, 0), "0 16 2 2 0 4 2 5 0 -1 0 0 0");
        due.is("run", x.run(9), 14);
        due.same("log", Due.logOf(x), "4 0 0 5; 4 0 4 12; 13 0 5 12; 14 0 6 16");
    }

    /** 1 takes 12 of the 20 that 0 lent: see lenders. */
    private static void wokenByWhatThePoolHas() {
        RoomDealer x = lenders();
        x.begin();
        x.run(7);
        due.is("squeezed no more", x.of(0, 11), 0);
        due.is("room", x.of(0, 1), 4);
        due.same("told", Due.logOf(x), "3 1 0 9; 6 0 4 20; 6 1 8 4; 6 1 8 4; 6 1 8 4; 6 1 8 4; 7 0 5 4");
    }

    private static void wakesAtItsEnd() {
        RoomDealer x = new RoomDealer();
        x.terms(4, 16, 0, 2, 9);
        Due.program(x, Due.MARK, 1, 3, 8, -1, 1001, 1003);
        x.begin();
        due.is("run", x.run(3), 3);
        due.is("a sleep for 1 is over at once", x.of(0, 0), 0);
        due.is("run", x.run(1), 4);
        due.same("squeezed to its floor", Due.allOf(x, 0), "2 4 0 0 0 3 1 5 0 -1 0 1 2");
        due.is("run", x.run(9), 6);
        due.same("log", Due.logOf(x), "4 0 0 5; 4 0 4 4; 6 0 5 4; 6 0 6 8");
        due.is("C is 0 behind the latest redeal", x.of(0, 8), 0);
    }

    private static void reserveIsKept() {
        RoomDealer x = new RoomDealer();
        x.terms(4, 20, 8, 4, 9);
        Due.program(x, Due.MARK, 20, 0, 4, -1);
        Due.program(x, Due.MARK, 1, 0, 1);
        x.begin();
        due.same("shares", Due.shares(x, 2), "8 4");
        due.is("pool", x.count(8), 8);
        x.run(8);
        due.is("one step above the reserve", x.of(0, 1), 12);
        due.is("the reserve", x.count(8), 8);
        due.same("log", Due.logOf(x), "1 1 6 4; 5 0 0 5; 8 0 8 4");
    }

    /**
     * At the first redeal (8) C is 5 of 0, 9 of 1, 0 of 2. 0, with all its room LIVE, gains 5*4/4,
     * more than 1 with 9*4/20; 1 would lose 9*4/12, 2 nothing, though it has to collect.
     */
    private static void stepsMoveFromTheLeastLoss() {
        RoomDealer x = new RoomDealer();
        x.terms(4, 36, 0, 8, 1);
        Due.program(x, Due.MARK, 4, 0, 8, -1);
        Due.program(x, Due.MARK, 4, 0, 16, -1);
        Due.program(x, Due.MARK, 1, 0, 12, -1, 0, 0, 0, 0, 0, 0, 0, 0);
        x.begin();
        due.same("shares", Due.shares(x, 3), "8 16 12");
        x.run(8);
        due.same("0 got a step", Due.allOf(x, 0), "0 12 8 8 1 1 2 5 0 -1 0 0 0");
        due.same("1 stays", Due.allOf(x, 1), "1 16 0 0 1 0 1 9 0 -1 0 0 3");
        due.same("2 gave it and is BUSY for 7", Due.allOf(x, 2), "1 8 0 0 0 8 1 7 0 -1 0 0 7");
        due.same("log", Due.logOf(x), "3 0 0 5; 3 1 0 9; 8 2 0 7; 8 2 3 4; 8 0 8 4");
        x.run(7);
        due.is("BUSY no more", x.of(2, 0), 0);
        due.is("its act has still to come", x.of(2, 5), 8);
    }

    /** 1 loses 3 by its first step, as 0 gains 5; by the second it would lose 4, as 0 gains 2. */
    private static void noStepForAGreaterLoss() {
        RoomDealer x = new RoomDealer();
        x.terms(4, 24, 0, 8, 9);
        Due.program(x, Due.MARK, 4, 0, 8, -1);
        Due.program(x, Due.MARK, 4, 0, 16, -1);
        x.begin();
        x.run(8);
        due.same("one step", Due.logOf(x), "3 0 0 5; 3 1 0 9; 8 1 3 4; 8 0 8 4");
        due.is("C is 0 all the same", x.of(1, 8), 0);
        due.is("all costs stay", x.of(1, 7), 9);
    }

    /** 0 gains 5*4/4, 1 would lose 15*4/12. */
    private static void noStepForAnEqualLoss() {
        RoomDealer x = new RoomDealer();
        x.terms(4, 28, 0, 8, 9);
        Due.program(x, Due.MARK, 4, 0, 8, -1);
        Due.program(x, Due.MARK, 1, 0, 4, 16, -1, 16, -1);
        x.begin();
        due.same("shares", Due.shares(x, 2), "8 20");
        x.run(8);
        due.same("no step", Due.logOf(x), "3 0 0 5; 4 1 0 15");
    }

    /** C 7, LIVE 3: s is 2 by steps of 4, so 14/3 14/5 14/7 14/9 14/11 14/13, and no more. */
    private static void copyCountsHalfSteps() {
        RoomDealer x = new RoomDealer();
        x.terms(4, 48, 0, 10, 9);
        Due.program(x, Due.COPY, 1, 0, 3, 1, -1, 1, -1);
        Due.program(x, Due.COPY, 1, 40, 0);
        x.begin();
        due.same("shares", Due.shares(x, 2), "8 40");
        x.run(9);
        due.is("C", x.of(0, 8), 7);
        x.run(1);
        due.is("six steps", x.of(0, 1), 32);
        due.is("pool", x.count(8), 16);
        x.clear();

        x.terms(1, 48, 0, 10, 9);
        Due.program(x, Due.COPY, 1, 0, 3, 1, -1, 1, -1);
        Due.program(x, Due.COPY, 1, 40, 0);
        x.begin();
        x.run(10);
        due.is("s is 1 by steps of 1: nine of them", x.of(0, 1), 17);
    }

    /** With nothing to move, ENDED is at TIME by its SHARE. */
    private static void aloneItTakesItsTime() {
        int[][] rows = {
            {5, -1}, {5, 3, -2, 1004, -1}, {7, -1, 2, -2, 1001, 9, -1}, {1, 1, 1, -3, -2, -1}, {20, 1020, -1},
        };
        for (int[] acts : rows) {
            for (int collector = 0; collector < 2; collector++) {
                for (int floor = 0; floor < 60; floor += 7) {
                    RoomDealer x = new RoomDealer();
                    x.terms(1, 64, 0, 1000, 0);
                    Due.program(x, collector, 9, floor, acts);
                    int time = x.deal();
                    due.is("time by its share", x.time(0, x.share(0)), time);
                    x.begin();
                    due.is("alone", x.run(2000), time);
                    due.is("costs", x.of(0, 0), 3);
                }
            }
        }
    }
}
