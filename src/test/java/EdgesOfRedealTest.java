/** The boundary cases of Terms IV about the REDEAL: SQUEEZED, GAIN, LOSS, RESERVE, SWING, C. */
public final class EdgesOfRedealTest {
    private static final Due due = new Due();
    private static final int[] TAKER = {6, 1, -1, 1, -1};

    public static void main(String[] args) {
        eachTickInWhichNowIsAMultiple();
        everyTick();
        squeezedOnce();
        squeezedAgainInAnotherSleep();
        wakesInTheTickOfTheRedeal();
        squeezedByNumbers();
        squeezedCollects();
        squeezedWithNothing();
        swingOfNone();
        swingAtMost();
        gainAboveZero();
        gainOfCopy();
        gainOfTheLeastNumber();
        greatestGain();
        gainOfReadyOrBusy();
        gainOfNoLeaker();
        poolHasReserveAndAStep();
        poolHasReserveAlone();
        poolOfSleepers();
        spareIsAStep();
        floorLeavesNoSpare();
        freeIsAboveAStep();
        freeOfCopyIsAboveHalfAStep();
        leastLossOfTheLeastNumber();
        leastLoss();
        lossBelowGain();
        lossByGreaterSteps();
        leakerLoses();
        giverCollects();
        askedAnew();
        noMoreIsDone();
        costsAreOfTheLatestOnes();
        costsOfAllAreZero();
        due.end();
    }

    /** A taker alone with what another one, that ENDS at once, leaves to the POOL. */
    private static RoomDealer takerWithPool(int reserve, int left, int each, int swing) {
        RoomDealer x = Due.with(1, 7 + reserve + left, reserve, each, swing);
        Due.program(x, Due.MARK, 1, 0, TAKER);
        EdgesOfAskingTest.endsIn(x, 1, left);
        x.begin();
        due.same("SHARES", Due.shares(x, 2), "7 " + left);
        return x;
    }

    private static void eachTickInWhichNowIsAMultiple() {
        due.sentence("IV: REDEAL: at the end of each TICK in which NOW is a multiple of EACH");
        RoomDealer x = Due.with(8, 8, 0, 5, 0);
        Due.program(x, Due.MARK, 1, 0, 8, -1, 1009);
        x.begin();
        x.run(4);
        due.is("at 4: entries", x.count(10), 0);
        x.run(1);
        due.same("at 5", Due.logOf(x), "5 0 0 5; 5 0 4 8");
        RoomDealer y = Due.with(1, 9, 0, 1000, 0);
        Due.program(y, Due.MARK, 12, 0, 1200, 0);
        y.begin();
        y.run(999);
        due.is("at 999: entries", y.count(10), 0);
        y.run(1);
        due.same("at 1000", Due.logOf(y), "1000 0 4 0");
        y.run(999);
        due.same("at 1999", Due.logOf(y), "1000 0 4 0; 1004 0 5 0");
        y.run(1);
        due.same("at 2000", EdgesOfAskingTest.logFrom(y, 1005), "2000 0 4 0");
    }

    private static void everyTick() {
        due.sentence("IV: REDEAL (EACH is 1)");
        RoomDealer x = Due.with(8, 8, 0, 1, 0);
        Due.program(x, Due.MARK, 1, 0, 1002, 1001, 1003, 8);
        x.begin();
        x.run(6);
        due.same("the LOG", Due.logOf(x), "1 0 4 8; 2 0 5 8; 4 0 4 8; 6 0 5 8");
    }

    private static void squeezedOnce() {
        due.sentence("IV: each that is ASLEEP and not SQUEEZED is SQUEEZED");
        RoomDealer x = Due.with(8, 8, 0, 3, 0);
        Due.program(x, Due.MARK, 1, 0, 1010, 8);
        x.begin();
        x.run(3);
        due.same("at 3", Due.allOf(x, 0), "2 0 0 0 0 0 0 0 0 -1 0 1 7");
        x.run(6);
        due.same("at 9", Due.allOf(x, 0), "2 0 0 0 0 0 0 0 0 -1 0 1 1");
        due.same("told once", Due.logOf(x), "3 0 4 8");
        x.run(1);
        due.same("woken", Due.allOf(x, 0), "0 8 0 0 0 1 0 0 0 -1 0 0 0");
    }

    private static void squeezedAgainInAnotherSleep() {
        due.sentence("IV: and is SQUEEZED no more (so it can be again)");
        RoomDealer x = Due.with(8, 8, 0, 3, 0);
        Due.program(x, Due.MARK, 2, 0, 1004, 8, -1);
        x.begin();
        x.run(4);
        due.same("the first", Due.logOf(x), "3 0 4 8; 4 0 5 8");
        x.run(5);
        due.same("the second", EdgesOfAskingTest.logFrom(x, 5), "9 0 0 5; 9 0 4 8");
    }

    private static void wakesInTheTickOfTheRedeal() {
        due.sentence("IV: each that is ASLEEP (its SLEEP was over in this TICK)");
        RoomDealer x = Due.with(8, 8, 0, 5, 0);
        Due.program(x, Due.MARK, 1, 0, 1005, 8);
        x.begin();
        x.run(5);
        due.is("SLEEP for 5: entries", x.count(10), 0);
        due.is("ROOM", x.of(0, 1), 8);
        RoomDealer y = Due.with(8, 8, 0, 5, 0);
        Due.program(y, Due.MARK, 1, 0, 1006, 8);
        y.begin();
        y.run(6);
        due.same("SLEEP for 6", Due.logOf(y), "5 0 4 8; 6 0 5 8");
        RoomDealer z = Due.with(8, 8, 0, 5, 0);
        Due.program(z, Due.MARK, 1, 0, 0, 0, 0, 0, 1002, 8);
        z.begin();
        z.run(6);
        due.same("it fell ASLEEP in this TICK", Due.logOf(z), "5 0 4 8; 6 0 5 8");
    }

    private static void squeezedByNumbers() {
        due.sentence("IV: first, by numbers");
        RoomDealer x = Due.with(4, 24, 0, 3, 0);
        for (int i = 1; i <= 3; i++) {
            Due.program(x, Due.MARK, 1, 0, 1009, 4 * i);
        }
        x.begin();
        x.run(3);
        due.same("the LOG", Due.logOf(x), "3 0 4 4; 3 1 4 8; 3 2 4 12");
        due.is("the POOL", x.count(8), 24);
    }

    private static void squeezedCollects() {
        due.sentence("IV: it COLLECTS, if USED is above LIVE");
        RoomDealer x = Due.with(1, 8, 0, 4, 0);
        Due.program(x, Due.MARK, 1, 0, 2, 1, 0, 1009, 5);
        x.begin();
        x.run(4);
        due.same("as much", Due.logOf(x), "4 0 4 5");
        due.same("ASLEEP", Due.allOf(x, 0), "2 3 3 3 0 3 2 0 0 -1 0 1 8");
        RoomDealer y = Due.with(1, 8, 0, 4, 0);
        Due.program(y, Due.MARK, 1, 0, 2, 1, -1, 1009, 6);
        y.begin();
        y.run(4);
        due.same("above by one", Due.logOf(y), "4 0 0 4; 4 0 4 6");
        due.same("it sleeps no longer for it", Due.allOf(y, 0), "2 2 2 2 0 3 2 4 0 -1 0 1 8");
    }

    private static void squeezedWithNothing() {
        due.sentence("IV: 4 SQUEEZED (what went to the POOL): nothing");
        RoomDealer x = Due.with(8, 8, 0, 3, 0);
        Due.program(x, Due.MARK, 1, 0, 8, 1009);
        x.begin();
        x.run(3);
        due.same("its ROOM is KEEP: told with 0", Due.logOf(x), "3 0 4 0");
        due.is("it is SQUEEZED", x.of(0, 11), 1);
        RoomDealer y = Due.with(8, 8, 0, 3, 0);
        Due.program(y, Due.MARK, 1, 0, 1009);
        y.begin();
        y.run(3);
        due.same("it has no ROOM", Due.logOf(y), "3 0 4 0");
    }

    private static void swingOfNone() {
        due.sentence("IV: then, SWING times at most (0)");
        RoomDealer x = takerWithPool(0, 9, 4, 0);
        x.run(3);
        due.is("C ahead", x.of(0, 8), 0);
        x.run(1);
        due.is("ROOM", x.of(0, 1), 7);
        due.is("C", x.of(0, 8), 0);
        due.is("all costs", x.of(0, 7), 10);
        due.same("the LOG", Due.logOf(x), "1 1 6 9; 4 0 0 10");
    }

    private static void swingAtMost() {
        due.sentence("IV: then, SWING times at most (1 .. 9)");
        for (int swing = 1; swing <= 9; swing++) {
            RoomDealer x = Due.with(1, 13 + 20, 0, 4, swing);
            Due.program(x, Due.MARK, 1, 0, 12, 1, -1, 1, -1);
            EdgesOfAskingTest.endsIn(x, 1, 20);
            x.begin();
            x.run(4);
            due.is("ROOM by SWING " + swing, x.of(0, 1), 13 + swing);
            due.is("the POOL", x.count(8), 20 - swing);
        }
    }

    /** C is 3, A is 1: 3 / 2, 3 / 3, and then 3 / 4. */
    private static void gainAboveZero() {
        due.sentence("IV: GAIN is C * s / (A + s) (cut); if that is above 0");
        RoomDealer x = Due.with(1, 2 + 9, 0, 4, 9);
        Due.program(x, Due.MARK, 1, 0, 1, 1, -1, 1, -1);
        EdgesOfAskingTest.endsIn(x, 1, 9);
        x.begin();
        x.run(4);
        due.is("all costs", x.of(0, 7), 3);
        due.is("two STEPS", x.of(0, 1), 4);
        RoomDealer y = takerWithPool(0, 20, 4, 9);
        y.run(4);
        due.is("10 / 2, 10 / 3, .. 10 / 10: nine", y.of(0, 1), 16);
        RoomDealer z = Due.with(4, 4 + 36, 0, 3, 9);
        Due.program(z, Due.MARK, 9, 0, 4, -1);
        EdgesOfAskingTest.endsIn(z, 1, 36);
        z.begin();
        z.run(3);
        due.is("12 / 8, 12 / 12, and then 12 / 16", z.of(0, 1), 12);
    }

    private static int roomOfCopy(int step, int cells) {
        RoomDealer x = Due.with(step, 30 * step, 0, 4, 9);
        Due.program(x, Due.COPY, 1, 0, 3, cells, -1, cells, -1);
        EdgesOfAskingTest.endsIn(x, 1, 30 * step - x.need(0));
        x.begin();
        x.run(4);
        due.is("all costs", x.of(0, 7), 7);
        return x.of(0, 1);
    }

    /** C is 7, LIVE is 3; A is what half of the ROOM, cut, is above that. */
    private static void gainOfCopy() {
        due.sentence("IV: s the STEP (COPY: half of it, cut, at least 1)");
        due.is("STEP 4, s 2: 14 / 3 5 7 9 11 13, and then 15", roomOfCopy(4, 1), 8 + 6 * 4);
        due.is("STEP 5, s 2: 14 / 4 6 9 11 14, and then 16", roomOfCopy(5, 2), 10 + 5 * 5);
        due.is("STEP 3, s 1: 7 / 2 4 5 7, and then 8", roomOfCopy(3, 1), 9 + 4 * 3);
        due.is("STEP 2, s 1: 7 / 2 .. 7, and then 8", roomOfCopy(2, 1), 8 + 6 * 2);
        due.is("STEP 1, s 1: 7 / 2 2 3 3 4 4 5 5 6", roomOfCopy(1, 1), 8 + 9);
    }

    private static void gainOfTheLeastNumber() {
        due.sentence("IV: the one with the greatest GAIN (of several the least number)");
        String[] want = {"", "4 0 8 1", "4 0 8 1; 4 0 8 1", "4 0 8 1; 4 0 8 1; 4 1 8 1"};
        for (int swing = 1; swing <= 3; swing++) {
            RoomDealer x = Due.with(1, 4 + 9, 0, 4, swing);
            Due.program(x, Due.MARK, 1, 0, 1, 1, -1, 1, -1);
            Due.program(x, Due.MARK, 1, 0, 1, 1, -1, 1, -1);
            EdgesOfAskingTest.endsIn(x, 1, 9);
            x.begin();
            x.run(4);
            due.same("1 and 1, 1 and 1, 0 and 1", EdgesOfAskingTest.logFrom(x, 4),
                    "4 0 0 3; 4 1 0 3; " + want[swing]);
        }
    }

    private static void greatestGain() {
        due.sentence("IV: the one with the greatest GAIN gets a STEP");
        RoomDealer x = Due.with(1, 2 + 7 + 9, 0, 4, 1);
        Due.program(x, Due.MARK, 1, 0, 1, 1, -1, 1, -1);
        Due.program(x, Due.MARK, 1, 0, TAKER);
        EdgesOfAskingTest.endsIn(x, 1, 9);
        x.begin();
        x.run(4);
        due.same("3 / 2 and 10 / 2", EdgesOfAskingTest.logFrom(x, 4), "4 0 0 3; 4 1 0 10; 4 1 8 1");
    }

    /** It COLLECTS in TICK 4, is READY from TICK 13 on, MAKES in TICK 14 and SLEEPS in TICK 15. */
    private static void gainOfReadyOrBusy() {
        due.sentence("IV: GAIN of one that is READY or BUSY");
        int[] eaches = {4, 12, 13, 14, 15};
        int[] hows = {1, 1, 0, 0, 2};
        for (int i = 0; i < eaches.length; i++) {
            RoomDealer x = Due.with(1, 7 + 9, 0, eaches[i], 1);
            Due.program(x, Due.MARK, 1, 0, 6, 1, -1, 1, 1009);
            EdgesOfAskingTest.endsIn(x, 1, 9);
            x.begin();
            x.run(eaches[i]);
            due.is("how it is at " + eaches[i], x.of(0, 0), hows[i]);
            due.is("ROOM at " + eaches[i], x.of(0, 1), hows[i] == 2 ? 7 : 8);
        }
    }

    /** It COLLECTS for 8 and 8, is found out in TICK 28, and COLLECTS for 10 in TICK 30. */
    private static void gainOfNoLeaker() {
        due.sentence("IV: GAIN of one that is no LEAKER");
        for (int each = 27; each <= 30; each += 3) {
            RoomDealer x = Due.with(1, 40, 0, each, 9);
            Due.program(x, Due.MARK, 6, 0, 1, 3, -1);
            EdgesOfAskingTest.endsIn(x, 1, 31);
            x.begin();
            x.run(each - 1);
            due.is("ROOM ahead", x.of(0, 1), 9);
            due.is("C ahead", x.of(0, 8), 16);
            x.run(1);
            due.is("whether it is a LEAKER", x.of(0, 10), each == 30 ? 1 : 0);
            due.is("ROOM", x.of(0, 1), each == 30 ? 9 : 18);
        }
    }

    private static void poolHasReserveAndAStep() {
        due.sentence("IV: from the POOL, if that has RESERVE and a STEP or more");
        for (int reserve = 0; reserve <= 3; reserve++) {
            for (int left = 1; left <= 3; left++) {
                RoomDealer x = takerWithPool(reserve, left, 4, 9);
                x.run(4);
                due.is("ROOM by RESERVE " + reserve + " and " + left, x.of(0, 1), 7 + left);
                due.is("the POOL has its RESERVE", x.count(8), reserve);
            }
        }
    }

    private static void poolHasReserveAlone() {
        due.sentence("IV: else from another one, or no more is done (the POOL has RESERVE alone)");
        RoomDealer x = takerWithPool(3, 0, 4, 9);
        x.run(4);
        due.same("no other one", EdgesOfAskingTest.logFrom(x, 4), "4 0 0 10");
        RoomDealer y = Due.with(1, 7 + 3 + 5, 3, 4, 1);
        Due.program(y, Due.MARK, 1, 0, TAKER);
        EdgesOfAskingTest.idler(y, 5);
        y.begin();
        due.is("the POOL", y.count(8), 3);
        y.run(4);
        due.same("another one gives", Due.logOf(y), "4 0 0 10; 4 1 3 1; 4 0 8 1");
        due.is("the POOL", y.count(8), 3);
        RoomDealer z = Due.with(1, 7 + 4 + 5, 3, 4, 1);
        Due.program(z, Due.MARK, 1, 0, TAKER);
        EdgesOfAskingTest.idler(z, 5);
        EdgesOfAskingTest.endsIn(z, 1, 1);
        z.begin();
        z.run(4);
        due.same("a STEP more is there", EdgesOfAskingTest.logFrom(z, 4), "4 0 0 10; 4 0 8 1");
    }

    private static void poolOfSleepers() {
        due.sentence("IV: what its ROOM is above KEEP goes to the POOL; then a STEP comes from there");
        RoomDealer x = Due.with(1, 7 + 2, 0, 4, 9);
        Due.program(x, Due.MARK, 1, 0, TAKER);
        Due.program(x, Due.MARK, 1, 0, 1009, 2);
        x.begin();
        x.run(4);
        due.same("two STEPS, and no more", Due.logOf(x), "4 0 0 10; 4 1 4 2; 4 0 8 1; 4 0 8 1");
    }

    /** By STEPS of 4: a taker with NEED 28, and PROGRAM 1, that has ROOM 8. */
    private static String movedFrom(int collector, int floor, int cells) {
        RoomDealer x = Due.with(4, 36, 0, 4, 1);
        Due.program(x, Due.MARK, 1, 0, 24, 4, -1, 4, -1);
        Due.program(x, collector, 1, floor, cells, 0, 0, 0, 0, 0, -1, collector == Due.COPY ? 4 : 8);
        x.begin();
        due.same("SHARES", Due.shares(x, 2), "28 8");
        x.run(4);
        return Due.logOf(x);
    }

    private static final String STAYS = "4 0 0 39";
    private static final String MOVES = "4 0 0 39; 4 1 3 4; 4 0 8 4";

    private static void spareIsAStep() {
        due.sentence("IV: LOSS, if its SPARE is a STEP or more");
        due.same("LIVE 0: SPARE 8, A 8", movedFrom(Due.MARK, 0, 0), MOVES);
        due.same("LIVE 3: SPARE 4, A 5", movedFrom(Due.MARK, 0, 3), MOVES);
        due.same("LIVE 5: SPARE 0", movedFrom(Due.MARK, 0, 5), STAYS);
        due.same("LIVE 8: SPARE 0", movedFrom(Due.MARK, 0, 8), STAYS);
    }

    private static void floorLeavesNoSpare() {
        due.sentence("IV: LOSS, if its SPARE is a STEP or more (by its FLOOR)");
        due.same("FLOOR 4", movedFrom(Due.MARK, 4, 0), MOVES);
        due.same("FLOOR 5", movedFrom(Due.MARK, 5, 0), STAYS);
        due.same("COPY: FLOOR 4", movedFrom(Due.COPY, 4, 0), MOVES);
        due.same("COPY: FLOOR 5", movedFrom(Due.COPY, 5, 0), STAYS);
    }

    private static void freeIsAboveAStep() {
        due.sentence("IV: LOSS, if A is above s");
        due.same("LIVE 3: A 5", movedFrom(Due.MARK, 0, 3), MOVES);
        due.same("LIVE 4: A 4, though SPARE is a STEP", movedFrom(Due.MARK, 0, 4), STAYS);
    }

    private static void freeOfCopyIsAboveHalfAStep() {
        due.sentence("IV: LOSS, if A is above s (COPY: half of the STEP)");
        due.same("HOLDS 4, LIVE 1: A 3", movedFrom(Due.COPY, 0, 1), MOVES);
        due.same("HOLDS 4, LIVE 2: A 2, though SPARE is a STEP", movedFrom(Due.COPY, 0, 2), STAYS);
    }

    /** Both lose nothing; the first gives as long as more than a STEP is free in it. */
    private static void leastLossOfTheLeastNumber() {
        due.sentence("IV: from the other one with the least LOSS (the least number)");
        RoomDealer x = Due.with(1, 7 + 10, 0, 4, 6);
        EdgesOfAskingTest.idler(x, 5);
        Due.program(x, Due.MARK, 1, 0, TAKER);
        EdgesOfAskingTest.idler(x, 5);
        x.begin();
        x.run(4);
        String first = "4 0 3 1; 4 1 8 1; ";
        due.same("4 of one, then of the other", Due.logOf(x),
                "4 1 0 10; " + first + first + first + first + "4 2 3 1; 4 1 8 1; 4 2 3 1; 4 1 8 1");
        due.is("A of the first is a STEP", x.of(0, 1), 1);
    }

    /** 0 has COLLECTED for 8 and would lose 8 / 2, 2 nothing. */
    private static void leastLoss() {
        due.sentence("IV: from the other one with the least LOSS");
        RoomDealer x = Due.with(1, 7 + 7 + 5, 0, 4, 1);
        Due.program(x, Due.MARK, 1, 0, 4, 3, -1, 3, -1);
        Due.program(x, Due.MARK, 1, 0, TAKER);
        EdgesOfAskingTest.idler(x, 5);
        x.begin();
        x.run(4);
        due.same("the LOG", Due.logOf(x), "4 0 0 8; 4 1 0 10; 4 2 3 1; 4 1 8 1");
    }

    /** GAIN of the taker is 10 / 2; of the other A is 3, and C is 8 or 10. */
    private static void lossBelowGain() {
        due.sentence("IV: if that is below this GAIN; else no more is done");
        RoomDealer x = Due.with(1, 7 + 7, 0, 4, 1);
        Due.program(x, Due.MARK, 1, 0, TAKER);
        Due.program(x, Due.MARK, 1, 0, 4, 3, -1, 3, -1);
        x.begin();
        x.run(4);
        due.same("8 / 2 is one below", Due.logOf(x), "4 0 0 10; 4 1 0 8; 4 1 3 1; 4 0 8 1");
        RoomDealer y = Due.with(1, 7 + 8, 0, 4, 9);
        Due.program(y, Due.MARK, 1, 0, TAKER);
        Due.program(y, Due.MARK, 1, 0, 5, 3, -1, 3, -1);
        y.begin();
        y.run(4);
        due.same("10 / 2 is as much", Due.logOf(y), "4 0 0 10; 4 1 0 10");
        due.is("C", y.of(0, 8) + y.of(1, 8), 0);
    }

    /** By STEPS of 4 GAIN is 39 * 4 / 8; A of the other, that LIVES with 8 or 12 cells, is 8. */
    private static void lossByGreaterSteps() {
        due.sentence("IV: LOSS is C * s / (A - s) (cut)");
        due.same("17 * 4 / 4", movedFromCollector(Due.MARK, 8, 8), "4 0 0 39; 4 1 0 17; 4 1 3 4; 4 0 8 4");
        due.same("23 * 4 / 4", movedFromCollector(Due.MARK, 12, 8), "4 0 0 39; 4 1 0 23");
        due.same("COPY: 17 * 2 / 2", movedFromCollector(Due.COPY, 8, 4), "4 0 0 39; 4 1 0 17; 4 1 3 4; 4 0 8 4");
        due.same("COPY: 21 * 2 / 2", movedFromCollector(Due.COPY, 10, 4), "4 0 0 39; 4 1 0 21");
    }

    private static String movedFromCollector(int collector, int live, int cells) {
        RoomDealer x = Due.with(4, 28 + (live + cells) * (collector == Due.COPY ? 2 : 1), 0, 4, 1);
        Due.program(x, Due.MARK, 1, 0, 24, 4, -1, 4, -1);
        Due.program(x, collector, 1, 0, live, cells, -1, cells, -1);
        x.begin();
        x.run(4);
        return Due.logOf(x);
    }

    private static void leakerLoses() {
        due.sentence("IV: LOSS of one that is READY or BUSY (a LEAKER too)");
        RoomDealer x = Due.with(1, 8 + 7, 0, 4, 9);
        Due.program(x, Due.MARK, 8, 0, 1);
        Due.program(x, Due.MARK, 1, 0, TAKER);
        x.begin();
        x.run(4);
        String step = "; 4 0 3 1; 4 1 8 1";
        due.same("up to A 1", Due.logOf(x), "4 0 7 4; 4 1 0 10" + step + step + step);
    }

    /** PROGRAM 1, with ROOM 5, gives a STEP: its HEAP will HOLD 4. */
    private static void giverCollects() {
        due.sentence("IV: (it COLLECTS first as above)");
        for (int used = 4; used <= 5; used++) {
            RoomDealer x = Due.with(1, 7 + 5, 0, 4, 1);
            Due.program(x, Due.MARK, 1, 0, TAKER);
            Due.program(x, Due.MARK, 1, 0, used, -1, 0, 0, 0, 5);
            x.begin();
            x.run(4);
            due.same("USED " + used, Due.logOf(x),
                    used == 4 ? "4 0 0 10; 4 1 3 1; 4 0 8 1" : "4 0 0 10; 4 1 0 3; 4 1 3 1; 4 0 8 1");
            due.same("PROGRAM 1", Due.allOf(x, 1),
                    used == 4 ? "0 4 4 0 0 4 1 0 0 -1 0 0 0" : "1 4 0 0 0 4 1 3 0 -1 0 0 3");
        }
    }

    /** PROGRAM 0 gains 10 / 2, and then 10 / 3; PROGRAM 1, with LIVE 4 of 5, 8 / 2. */
    private static void askedAnew() {
        due.sentence("IV: (all is asked anew for each STEP that is moved)");
        RoomDealer x = Due.with(1, 7 + 5 + 9, 0, 4, 3);
        Due.program(x, Due.MARK, 1, 0, TAKER);
        Due.program(x, Due.MARK, 1, 0, 4, 1, -1, 1, -1);
        EdgesOfAskingTest.endsIn(x, 1, 9);
        x.begin();
        x.run(4);
        due.is("costs of 1", x.of(1, 7), 7);
        due.same("5 and 3, 3 and 3, 2 and 3", EdgesOfAskingTest.logFrom(x, 4),
                "4 0 0 10; 4 1 0 7; 4 0 8 1; 4 0 8 1; 4 1 8 1");
    }

    private static void noMoreIsDone() {
        due.sentence("IV: if that is above 0 (no GAIN is)");
        RoomDealer x = Due.with(1, 5 + 9, 0, 2, 9);
        EdgesOfAskingTest.idler(x, 5);
        EdgesOfAskingTest.endsIn(x, 1, 9);
        x.begin();
        x.run(8);
        due.same("nothing was COLLECTED", Due.logOf(x), "1 1 6 9");
    }

    private static void costsAreOfTheLatestOnes() {
        due.sentence("IV: C the costs of what a PROGRAM COLLECTED since the latest REDEAL");
        RoomDealer x = takerWithPool(0, 20, 4, 1);
        x.run(12);
        due.same("at 4 alone", EdgesOfAskingTest.logFrom(x, 4), "4 0 0 10; 4 0 8 1");
        RoomDealer y = takerWithPool(0, 20, 3, 1);
        y.run(5);
        due.is("C at 5", y.of(0, 8), 10);
        y.run(4);
        due.same("COLLECTED behind the first, at the second", EdgesOfAskingTest.logFrom(y, 2), "4 0 0 10; 6 0 8 1");
        due.is("C at 9", y.of(0, 8), 0);
        due.is("all costs", y.of(0, 7), 10);
    }

    private static void costsOfAllAreZero() {
        due.sentence("IV: then C is 0 of all (of one that ENDED, of one that is ASLEEP)");
        RoomDealer x = Due.with(4, 8, 0, 8, 0);
        Due.program(x, Due.MARK, 2, 0, 4, -1);
        Due.program(x, Due.MARK, 1, 0, 4, -1, 4, 1200);
        Due.program(x, Due.MARK, 1, 0, 1200);
        x.begin();
        x.run(7);
        due.is("0 ENDED", x.of(0, 0), 3);
        due.is("1 is ASLEEP", x.of(1, 0), 2);
        due.is("C of 0", x.of(0, 8), 3);
        due.is("C of 1", x.of(1, 8), 3);
        x.run(1);
        due.is("C of 0", x.of(0, 8), 0);
        due.is("C of 1", x.of(1, 8), 0);
        due.is("all costs of 0", x.of(0, 7), 3);
        RoomDealer y = Due.with(4, 4, 0, 7, 0);
        Due.program(y, Due.MARK, 2, 0, 4, -1);
        y.begin();
        due.is("the last TICK of all is one of a REDEAL", y.run(2000), 7);
        due.is("C", y.of(0, 8), 0);
        due.is("all costs", y.of(0, 7), 3);
    }
}
