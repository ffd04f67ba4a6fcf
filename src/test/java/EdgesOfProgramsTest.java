/** The boundary cases of promises 6 to 8, of Terms I about PROGRAMS and of Terms III about TERMS. */
public final class EdgesOfProgramsTest {
    private static final Due due = new Due();
    private static final int LEAST = Integer.MIN_VALUE;
    private static final int GREATEST = Integer.MAX_VALUE;
    private static final int[] SOUND = {8, 64, 16, 10, 3};
    private static final int STEP = 0;
    private static final int ALL = 1;
    private static final int RESERVE = 2;
    private static final int EACH = 3;
    private static final int SWING = 4;

    public static void main(String[] args) {
        stepOneToSixtyFour();
        allFromStepOn();
        allUpTo4096();
        allIsAMultiple();
        allIsSixtyFourStepsAtMost();
        reserveUpToAll();
        reserveIsAMultiple();
        eachOneToThousand();
        swingZeroToNine();
        termsWhileItRuns();
        termsRefusedStay();
        termsForSixPrograms();
        sixProgramsAtMost();
        rowsOfOneToSixtyActs();
        makesOfOneToNinetyNine();
        deathsOfOneToFiftyNine();
        deathOfNone();
        deathOfTheDead();
        zeroIsNothing();
        sleepsOfOneToTwoHundred();
        actsOfEightBytes();
        anyPlaceOfTheRow();
        roundsOneToForty();
        makesAreCountedThroughAll();
        collectorsCopyAndMark();
        floorZeroToThousand();
        programOfNoSlot();
        programOfNothing();
        programOfNoNumbers();
        programWhileItRuns();
        programOrder();
        programRefusedStays();
        clearTellsHowMany();
        clearOfNone();
        clearWhileItRuns();
        clearMakesRoomForSix();
        due.end();
    }

    private static int[] termsWith(int which, int value) {
        int[] t = SOUND.clone();
        t[which] = value;
        return t;
    }

    private static int say(RoomDealer x, int[] t) {
        return x.terms(t[STEP], t[ALL], t[RESERVE], t[EACH], t[SWING]);
    }

    private static String termsOf(RoomDealer x) {
        return x.count(1) + " " + x.count(2) + " " + x.count(3) + " " + x.count(4) + " " + x.count(5);
    }

    private static void sound(int... t) {
        RoomDealer x = new RoomDealer();
        String words = t[STEP] + " " + t[ALL] + " " + t[RESERVE] + " " + t[EACH] + " " + t[SWING];
        due.is("terms " + words, say(x, t), 0);
        due.same("the TERMS", termsOf(x), words);
    }

    private static void unsound(int... t) {
        RoomDealer x = new RoomDealer();
        due.is("terms " + t[STEP] + " " + t[ALL] + " " + t[RESERVE] + " " + t[EACH] + " " + t[SWING],
                say(x, t), -2);
        due.same("the TERMS stay", termsOf(x), "8 256 0 50 2");
    }

    private static void stepOneToSixtyFour() {
        due.sentence("III, 6: STEP (1 .. 64)");
        sound(1, 64, 0, 10, 3);
        sound(64, 64, 0, 10, 3);
        unsound(0, 64, 0, 10, 3);
        unsound(65, 65, 0, 10, 3);
        unsound(-1, 64, 0, 10, 3);
        unsound(-8, -8, 0, 10, 3);
        unsound(LEAST, 64, 0, 10, 3);
        unsound(GREATEST, GREATEST, 0, 10, 3);
    }

    private static void allFromStepOn() {
        due.sentence("III, 6: ALL (STEP ..");
        sound(8, 8, 0, 10, 3);
        sound(1, 1, 0, 10, 3);
        unsound(8, 0, 0, 10, 3);
        unsound(8, -8, 0, 10, 3);
        unsound(8, LEAST, 0, 10, 3);
    }

    private static void allUpTo4096() {
        due.sentence("III, 6: ALL (.. 4096)");
        sound(64, 4096, 0, 10, 3);
        unsound(64, 4160, 0, 10, 3);
        unsound(63, 4095, 0, 10, 3);
        unsound(64, GREATEST - 63, 0, 10, 3);
    }

    private static void allIsAMultiple() {
        due.sentence("III, 6: ALL, a multiple of STEP");
        sound(8, 16, 0, 10, 3);
        unsound(8, 15, 0, 10, 3);
        unsound(8, 17, 0, 10, 3);
        unsound(64, 4095, 0, 10, 3);
        unsound(64, 65, 0, 10, 3);
    }

    private static void allIsSixtyFourStepsAtMost() {
        due.sentence("III, 6: ALL, 64 STEPS at most");
        sound(1, 64, 0, 10, 3);
        unsound(1, 65, 0, 10, 3);
        sound(8, 512, 0, 10, 3);
        unsound(8, 520, 0, 10, 3);
        sound(63, 4032, 0, 10, 3);
    }

    private static void reserveUpToAll() {
        due.sentence("III, 6: RESERVE (0 .. ALL)");
        sound(termsWith(RESERVE, 0));
        sound(termsWith(RESERVE, 64));
        unsound(termsWith(RESERVE, -8));
        unsound(termsWith(RESERVE, 72));
        unsound(termsWith(RESERVE, LEAST));
        unsound(termsWith(RESERVE, GREATEST - 7));
        unsound(1, 64, -1, 10, 3);
        unsound(1, 64, 65, 10, 3);
        sound(1, 64, 64, 10, 3);
    }

    private static void reserveIsAMultiple() {
        due.sentence("III, 6: RESERVE, a multiple of STEP");
        sound(termsWith(RESERVE, 8));
        unsound(termsWith(RESERVE, 7));
        unsound(termsWith(RESERVE, 9));
        unsound(termsWith(RESERVE, 1));
        unsound(termsWith(RESERVE, 63));
    }

    private static void eachOneToThousand() {
        due.sentence("III, 6: EACH (1 .. 1000)");
        sound(termsWith(EACH, 1));
        sound(termsWith(EACH, 1000));
        for (int each : new int[] {0, 1001, -1, LEAST, GREATEST}) {
            unsound(termsWith(EACH, each));
        }
    }

    private static void swingZeroToNine() {
        due.sentence("III, 6: SWING (0 .. 9)");
        sound(termsWith(SWING, 0));
        sound(termsWith(SWING, 9));
        for (int swing : new int[] {-1, 10, LEAST, GREATEST}) {
            unsound(termsWith(SWING, swing));
        }
    }

    private static void termsWhileItRuns() {
        due.sentence("6: -9: it RUNS");
        RoomDealer x = new RoomDealer();
        Due.program(x, Due.MARK, 1, 0, 0);
        x.begin();
        due.is("sound", say(x, SOUND), -9);
        due.is("not sound", x.terms(0, 0, 0, 0, 10), -9);
        due.same("the TERMS stay", termsOf(x), "8 256 0 50 2");
        x.run(1);
        due.is("all have ENDED", say(x, SOUND), -9);
        x.stop();
        due.is("stopped, not sound", x.terms(0, 0, 0, 0, 10), -2);
        due.is("stopped", say(x, SOUND), 0);
        x.begin();
        x.clear();
        due.is("cleared", x.terms(4, 8, 0, 1, 0), 0);
    }

    private static void termsRefusedStay() {
        due.sentence("6: -2: one is not as told in III (the others are not taken either)");
        RoomDealer x = new RoomDealer();
        say(x, SOUND);
        int[] wrong = {0, 65, 17, 0, 10};
        for (int which = 0; which < wrong.length; which++) {
            int[] t = {4, 32, 4, 7, 5};
            t[which] = wrong[which];
            due.is("number " + which + " is wrong", say(x, t), -2);
            due.same("the TERMS stay", termsOf(x), "8 64 16 10 3");
        }
    }

    private static void termsForSixPrograms() {
        due.sentence("6: the TERMS are these (for each of 6 PROGRAMS)");
        RoomDealer x = new RoomDealer();
        for (int i = 0; i < 6; i++) {
            Due.program(x, Due.MARK, 1, 0, i + 1);
            due.is("NEED", x.need(i), 8);
        }
        due.is("terms", x.terms(1, 64, 0, 1, 1), 0);
        for (int i = 0; i < 6; i++) {
            due.is("NEED", x.need(i), i + 1);
        }
    }

    private static void sixProgramsAtMost() {
        due.sentence("I, 7: PROGRAMS 0 .., 6 at most; -3: there are 6");
        RoomDealer x = new RoomDealer();
        for (int i = 0; i < 6; i++) {
            due.is("program", Due.program(x, Due.MARK, 1, 0, i + 1), i);
            due.is("PROGRAMS", x.count(0), i + 1);
        }
        due.is("a seventh", x.program(0, Due.MARK, 1, 0), -3);
        due.is("PROGRAMS", x.count(0), 6);
        for (int i = 0; i < 6; i++) {
            due.is("PROGRAM " + i + " is itself yet", x.time(i, i + 1), 1);
            due.is("PROGRAM " + i + " is itself yet", x.time(i, i), -1);
        }
        due.is("PROGRAM 6", x.time(6, 64), -2);
    }

    private static void rowsOfOneToSixtyActs() {
        due.sentence("I: a ROW of 1 .. 60 ACTS");
        RoomDealer x = new RoomDealer();
        x.row(0, 0, 1);
        due.is("one ACT", x.program(0, Due.MARK, 1, 0), 0);
        due.is("takes one TICK", x.time(0, 0), 1);
        x.row(0, 0, 60);
        x.write(0, 59, 7);
        due.is("60 ACTS", x.program(0, Due.MARK, 1, 0), 1);
        due.is("take 60 TICKS", x.time(1, 7), 60);
        due.is("with the last of them", x.time(1, 6), -1);
    }

    private static void isAct(boolean is, int... acts) {
        for (int act : acts) {
            RoomDealer x = new RoomDealer();
            due.is("program of " + act, Due.program(x, Due.MARK, 1, 0, act), is ? 0 : -4);
        }
    }

    private static void makesOfOneToNinetyNine() {
        due.sentence("I: 1 .. 99: MAKE so many cells");
        isAct(true, 1, 99);
        isAct(false, 100, 101, 127, 999);
        for (int v : new int[] {1, 2, 98, 99}) {
            RoomDealer x = new RoomDealer();
            Due.program(x, Due.MARK, 1, 0, v);
            due.is("ROOM for " + v, x.time(0, v), 1);
            due.is("ROOM for one less", x.time(0, v - 1), -1);
        }
    }

    /** Makes of 1, 2, .. 59 cells, of which one dies. */
    private static void deathsOfOneToFiftyNine() {
        due.sentence("I: -1 .. -59: what was made by the MAKE that many ago (-1: by the latest one) DIES");
        isAct(true, -1, -59);
        isAct(false, -60, -61, -99, LEAST);
        for (int ago : new int[] {1, 2, 58, 59}) {
            int[] acts = new int[60];
            for (int k = 0; k < 59; k++) {
                acts[k] = k + 1;
            }
            acts[59] = -ago;
            RoomDealer x = Due.with(64, 4096, 0, 1000, 0);
            Due.program(x, Due.MARK, 2, 0, acts);
            x.begin();
            x.run(59);
            due.is("LIVE", x.of(0, 3), 1770);
            x.run(1);
            due.is("LIVE behind -" + ago, x.of(0, 3), 1770 - (60 - ago));
        }
    }

    private static void deathOfNone() {
        due.sentence("I: DIES, if there was such a one");
        RoomDealer x = Due.with(1, 64, 0, 1000, 0);
        Due.program(x, Due.MARK, 1, 0, -1, 5, -2, -59, 6, -3, -2, 0);
        x.begin();
        x.run(1);
        due.is("LIVE, nothing was made", x.of(0, 3), 0);
        x.run(3);
        due.is("LIVE, one was made", x.of(0, 3), 5);
        x.run(2);
        due.is("LIVE, two were made", x.of(0, 3), 11);
        x.run(1);
        due.is("LIVE, the second latest died", x.of(0, 3), 6);
    }

    private static void deathOfTheDead() {
        due.sentence("I: DIES, if it lives");
        RoomDealer x = Due.with(1, 64, 0, 1000, 0);
        Due.program(x, Due.MARK, 1, 0, 5, 6, -1, -1, -2, -2, 0);
        x.begin();
        x.run(3);
        due.is("LIVE", x.of(0, 3), 5);
        x.run(1);
        due.is("LIVE, the latest died again", x.of(0, 3), 5);
        x.run(2);
        due.is("LIVE, the first died twice", x.of(0, 3), 0);
        due.is("USED", x.of(0, 2), 11);
    }

    private static void zeroIsNothing() {
        due.sentence("I: 0: nothing");
        isAct(true, 0);
        RoomDealer x = new RoomDealer();
        Due.program(x, Due.MARK, 1, 0, 0);
        due.is("TIME by ROOM 0", x.time(0, 0), 1);
        x.begin();
        x.run(1);
        due.is("MAKES", x.of(0, 6), 0);
    }

    private static void sleepsOfOneToTwoHundred() {
        due.sentence("I: 1001 .. 1200: SLEEP for 1 .. 200 TICKS");
        isAct(true, 1001, 1200);
        isAct(false, 1000, 1201, 2000, GREATEST);
        for (int ticks : new int[] {1, 2, 199, 200}) {
            RoomDealer x = new RoomDealer();
            Due.program(x, Due.MARK, 1, 0, 1000 + ticks);
            due.is("TIME of SLEEP for " + ticks, x.time(0, 0), ticks);
            x.begin();
            due.is("NOW at its end", x.run(2000), ticks);
        }
    }

    private static void actsOfEightBytes() {
        due.sentence("7: -4: one of these is no ACT (numbers whose lower bytes are one)");
        long[] high = {1L << 8, 1L << 16, 1L << 32, 1L << 40, Long.MIN_VALUE};
        for (long h : high) {
            for (int low : new int[] {0, 1, 99}) {
                RoomDealer x = new RoomDealer();
                x.row(0, 3, 1);
                x.write(0, 0, h + low);
                due.is("program of " + (h + low), x.program(0, Due.MARK, 1, 0), -4);
            }
        }
    }

    private static void anyPlaceOfTheRow() {
        due.sentence("7: -4: one of these is no ACT (in any place)");
        for (int place : new int[] {0, 1, 30, 58, 59}) {
            RoomDealer x = new RoomDealer();
            x.row(0, 1, 60);
            x.write(0, place, 100);
            due.is("100 in place " + place, x.program(0, Due.MARK, 1, 0), -4);
            due.is("no PROGRAM", x.count(0), 0);
            x.write(0, place, 99);
            due.is("99 in place " + place, x.program(0, Due.MARK, 1, 0), 0);
        }
    }

    private static void roundsOneToForty() {
        due.sentence("I, 7: the ROW is gone through ROUNDS times; -2: ROUNDS are not 1 .. 40");
        RoomDealer x = new RoomDealer();
        Due.fill(x, 0, 0, 1001);
        due.is("1", x.program(0, Due.MARK, 1, 0), 0);
        due.is("TIME", x.time(0, 0), 2);
        due.is("40", x.program(0, Due.MARK, 40, 0), 1);
        due.is("TIME", x.time(1, 0), 80);
        for (int rounds : new int[] {0, 41, -1, LEAST, GREATEST}) {
            due.is("ROUNDS " + rounds, x.program(0, Due.MARK, rounds, 0), -2);
        }
        x.begin();
        x.run(79);
        due.is("ROUNDS over, one TICK ahead", x.of(1, 4), 39);
        due.is("NOW at the end", x.run(9), 80);
        due.is("ROUNDS over", x.of(1, 4), 40);
        due.is("ROUNDS over of the first", x.of(0, 4), 1);
    }

    /** 30 makes a ROUND, of 1 .. 30 cells: 59 ago is, from the second ROUND on, a 2. */
    private static void makesAreCountedThroughAll() {
        due.sentence("I: MAKES are counted through all");
        int[] acts = new int[31];
        for (int k = 0; k < 30; k++) {
            acts[k] = k + 1;
        }
        acts[30] = -59;
        RoomDealer x = Due.with(64, 4096, 0, 1000, 0);
        Due.program(x, Due.MARK, 5, 0, acts);
        x.begin();
        for (int round = 1; round <= 4; round++) {
            x.run(31);
            due.is("ROUNDS over", x.of(0, 4), round);
            due.is("MAKES", x.of(0, 6), 30 * round);
            due.is("LIVE", x.of(0, 3), 465 * round - 2 * (round - 1));
        }
    }

    private static void collectorsCopyAndMark() {
        due.sentence("I, 7: COLLECTORS: 0 COPY, 1 MARK; -2: there is no such COLLECTOR");
        RoomDealer x = new RoomDealer();
        Due.fill(x, 0, 5);
        due.is("0", x.program(0, 0, 1, 0), 0);
        due.is("1", x.program(0, 1, 1, 0), 1);
        due.is("COPY by ROOM 9", x.time(0, 9), -1);
        due.is("MARK by ROOM 9", x.time(1, 9), 1);
        for (int collector : new int[] {-1, 2, LEAST, GREATEST}) {
            due.is("COLLECTOR " + collector, x.program(0, collector, 1, 0), -2);
        }
        due.is("PROGRAMS", x.count(0), 2);
    }

    private static void floorZeroToThousand() {
        due.sentence("7: -2: FLOOR not 0 .. 1000");
        RoomDealer x = Due.with(64, 4096, 0, 1000, 0);
        Due.fill(x, 0, 0);
        due.is("0", x.program(0, Due.MARK, 1, 0), 0);
        due.is("NEED", x.need(0), 0);
        due.is("1000", x.program(0, Due.MARK, 1, 1000), 1);
        due.is("NEED", x.need(1), 1024);
        for (int floor : new int[] {-1, 1001, LEAST, GREATEST}) {
            due.is("FLOOR " + floor, x.program(0, Due.MARK, 1, floor), -2);
        }
        due.is("PROGRAMS", x.count(0), 2);
    }

    private static void programOfNoSlot() {
        due.sentence("7: -2: there is no such SLOT");
        RoomDealer x = new RoomDealer();
        for (int slot = 0; slot < 4; slot++) {
            Due.fill(x, slot, 1);
        }
        for (int slot : new int[] {-1, 4, LEAST, GREATEST}) {
            due.is("SLOT " + slot, x.program(slot, Due.MARK, 1, 0), -2);
        }
        due.is("PROGRAMS", x.count(0), 0);
    }

    private static void programOfNothing() {
        due.sentence("7: -5: the SLOT has nothing");
        RoomDealer x = new RoomDealer();
        due.is("ahead of any row", x.program(2, Due.MARK, 1, 0), -5);
        Due.fill(x, 2, 1);
        x.tear(2);
        due.is("torn", x.program(2, Due.MARK, 1, 0), -5);
        due.is("PROGRAMS", x.count(0), 0);
    }

    private static void programOfNoNumbers() {
        due.sentence("7: -8: its row has no numbers");
        RoomDealer x = new RoomDealer();
        for (int width = 0; width < 4; width++) {
            x.row(0, width, 0);
            due.is("WIDTH " + width, x.program(0, Due.MARK, 1, 0), -8);
        }
        due.is("PROGRAMS", x.count(0), 0);
    }

    private static void programWhileItRuns() {
        due.sentence("7: -9: it RUNS");
        RoomDealer x = new RoomDealer();
        Due.program(x, Due.MARK, 1, 0, 0);
        x.begin();
        due.is("program", x.program(0, Due.MARK, 1, 0), -9);
        x.run(1);
        due.is("all have ENDED", x.program(0, Due.MARK, 1, 0), -9);
        due.is("PROGRAMS", x.count(0), 1);
        x.stop();
        due.is("stopped", x.program(0, Due.MARK, 1, 0), 1);
    }

    private static void programOrder() {
        due.sentence("7: -9, -2, -3, -5, -8, -4 in this order");
        RoomDealer x = new RoomDealer();
        Due.fill(x, 1, 500);
        x.row(2, 2, 0);
        due.is("-2 ahead of -5", x.program(3, 2, 1, 0), -2);
        due.is("-2 ahead of -8", x.program(2, 0, 0, 0), -2);
        due.is("-2 ahead of -4", x.program(1, 0, 1, -1), -2);
        for (int i = 0; i < 6; i++) {
            Due.program(x, Due.MARK, 1, 0, 0);
        }
        due.is("-2 ahead of -3", x.program(0, 0, 41, 0), -2);
        due.is("-3 ahead of -5", x.program(3, 0, 1, 0), -3);
        due.is("-3 ahead of -8", x.program(2, 0, 1, 0), -3);
        due.is("-3 ahead of -4", x.program(1, 0, 1, 0), -3);
        x.begin();
        due.is("-9 ahead of -2", x.program(4, 0, 1, 0), -9);
        due.is("-9 ahead of -3", x.program(0, 0, 1, 0), -9);
    }

    private static void programRefusedStays() {
        due.sentence("7: a PROGRAM more (not by what was refused)");
        RoomDealer x = new RoomDealer();
        Due.program(x, Due.MARK, 1, 0, 5);
        x.program(0, 2, 1, 0);
        x.program(3, 0, 1, 0);
        Due.program(x, Due.MARK, 1, 0, 7, 100);
        due.is("PROGRAMS", x.count(0), 1);
        due.is("PROGRAM 0 is itself yet", x.time(0, 5), 1);
        due.is("there is no PROGRAM 1", x.time(1, 5), -2);
        due.is("the next one's number", Due.program(x, Due.MARK, 1, 0, 7), 1);
        due.is("and TIME", x.time(1, 6), -1);
    }

    private static void clearTellsHowMany() {
        due.sentence("8: there are no PROGRAMS: how many there were");
        RoomDealer x = new RoomDealer();
        for (int n = 1; n <= 6; n++) {
            for (int i = 0; i < n; i++) {
                Due.program(x, Due.MARK, 1, 0, 0);
            }
            due.is("clear()", x.clear(), n);
            due.is("PROGRAMS", x.count(0), 0);
            due.is("PROGRAM 0", x.time(0, 0), -2);
        }
    }

    private static void clearOfNone() {
        due.sentence("8: how many there were (none)");
        RoomDealer x = new RoomDealer();
        due.is("clear()", x.clear(), 0);
        Due.program(x, Due.MARK, 1, 0, 0);
        x.clear();
        due.is("clear() again", x.clear(), 0);
    }

    private static void clearWhileItRuns() {
        due.sentence("8: nothing RUNS, and of() tells nothing");
        RoomDealer x = new RoomDealer();
        Due.program(x, Due.MARK, 1, 0, 5, 1009);
        x.begin();
        x.run(2);
        due.is("clear()", x.clear(), 1);
        due.is("whether it RUNS", x.count(6), 0);
        due.is("run(1)", x.run(1), -9);
        due.is("stop()", x.stop(), false);
        for (int what = 0; what <= 12; what++) {
            due.is("of(0, " + what + ")", x.of(0, what), -2);
        }
        Due.program(x, Due.MARK, 1, 0, 5);
        due.is("of() of a new PROGRAM that has not run", x.of(0, 0), -2);
        due.is("begin()", x.begin(), true);
        due.is("of() of one that RUNS", x.of(0, 0), 0);
        x.stop();
        x.clear();
        due.is("of() behind stop() and clear()", x.of(0, 0), -2);
    }

    private static void clearMakesRoomForSix() {
        due.sentence("8: there are no PROGRAMS (so six can come)");
        RoomDealer x = new RoomDealer();
        for (int i = 0; i < 6; i++) {
            Due.program(x, Due.COPY, 3, 100, 9, -1);
        }
        x.deal();
        x.clear();
        for (int i = 0; i < 6; i++) {
            due.is("program", Due.program(x, Due.MARK, 1, 0, i + 1), i);
            due.is("its TIME is its own", x.time(i, i + 1), 1);
            due.is("its NEED is its own", x.need(i), 8);
        }
        due.is("a seventh", x.program(0, Due.MARK, 1, 0), -3);
    }
}
