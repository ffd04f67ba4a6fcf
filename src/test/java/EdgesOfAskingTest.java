import java.util.ArrayList;
import java.util.List;

/**
 * The boundary cases of Terms IV about being woken, KEEP, SPARE and ASKING.
 *
 * Most runs have one pattern: PROGRAM 0 sleeps up to TICK 5 and is SQUEEZED at the REDEAL of TICK 4,
 * where a taker, that has COLLECTED just then, gets SWING STEPS of what it lent. So it wakes with
 * that much less, and ASKS for it in TICK 6.
 */
public final class EdgesOfAskingTest {
    private static final Due due = new Due();

    public static void main(String[] args) {
        wokenWithAll();
        wokenWithWhatThereIs();
        wokenWithNothing();
        wokenUpToTheRoomThatItHad();
        wokenWithoutHavingBeenSqueezed();
        keepIsTheLeastMultiple();
        keepOfCopy();
        keepIsNotBelowTheFloor();
        spareOfWhoKeepsAll();
        asksForTheLeastMultiple();
        asksForTheLeastMultipleOfCopy();
        makeIsOverAtOnce();
        poolIsJustEnough();
        poolIsAStepTooLittle();
        poolGoesAheadOfSleepers();
        poolAndSpareAreJustEnough();
        whoEndedHasNoSpare();
        leakerWithinItsPart();
        othersMayHaveMore();
        sleepersByNumbers();
        sleepersAreJustEnough();
        sleepersAreAStepTooLittle();
        sleepersGiveDownToTheirFloor();
        greatestSpareGives();
        sleeperCollectsFirst();
        otherCollectsFirst();
        whoActedAlreadyIsBusyInFull();
        due.end();
    }

    /** Has NEED 7, COLLECTS in TICK 4 for 10; its GAIN is 10 / 2, 10 / 3, .. 10 / 10 by STEPS of 1. */
    static void taker(RoomDealer x) {
        Due.program(x, Due.MARK, 1, 0, 6, 1, -1, 1, -1);
    }

    /** As the taker, but it has nothing to SPARE but what it gets. */
    static void takerWithFloor(RoomDealer x) {
        Due.program(x, Due.MARK, 1, 7, 6, 1, -1, 1, -1);
    }

    /** Ends in a TICK and leaves so much to the POOL. */
    static void endsIn(RoomDealer x, int ticks, int room) {
        Due.program(x, Due.MARK, 1, room, new int[ticks]);
    }

    /** Falls ASLEEP in TICK 5 with so much ROOM, nothing USED. */
    static void sleeper(RoomDealer x, int room, int floor) {
        Due.program(x, Due.MARK, 1, floor, 0, 0, 0, 0, 1009, room);
    }

    /** Is READY up to TICK 8 with so much ROOM, nothing USED. */
    static void idler(RoomDealer x, int room) {
        Due.program(x, Due.MARK, 1, 0, 0, 0, 0, 0, 0, 0, 0, 0, room);
    }

    /**
     * PROGRAM 0 MAKES one cell a ROUND, is SQUEEZED, and has to ask for each; it is a LEAKER in
     * TICK 20, and ASKS for its fifth STEP in TICK 21. PROGRAMS are 3, ALL is 12 and the room given.
     */
    static RoomDealer leaker(int room) {
        RoomDealer x = Due.with(1, 12 + room, 0, 4, 4 + room);
        Due.program(x, Due.MARK, 5, 0, 1, 1004);
        taker(x);
        endsIn(x, 1, room);
        return x;
    }

    /** The entries of the LOG from a TICK on. */
    static String logFrom(RoomDealer x, int now) {
        List<String> found = new ArrayList<>();
        for (String entry : Due.logOf(x).split("; ")) {
            if (!entry.isEmpty() && Integer.parseInt(entry.substring(0, entry.indexOf(' '))) >= now) {
                found.add(entry);
            }
        }
        return String.join("; ", found);
    }

    private static RoomDealer asker(int all, int swing, int cells) {
        RoomDealer x = Due.with(1, all, 0, 4, swing);
        Due.program(x, Due.MARK, 1, 0, 1005, cells);
        return x;
    }

    private static void wokenWithAll() {
        due.sentence("IV: it gets from the POOL up to the ROOM that it had (all is there)");
        RoomDealer x = asker(13, 0, 6);
        taker(x);
        x.begin();
        x.run(4);
        due.same("SQUEEZED", Due.allOf(x, 0), "2 0 0 0 0 0 0 0 0 -1 0 1 1");
        due.is("the POOL", x.count(8), 6);
        x.run(1);
        due.same("woken", Due.allOf(x, 0), "0 6 0 0 0 1 0 0 0 -1 0 0 0");
        due.is("the POOL", x.count(8), 0);
        due.same("the LOG", Due.logOf(x), "4 1 0 10; 4 0 4 6; 5 0 5 6");
    }

    private static void wokenWithWhatThereIs() {
        due.sentence("IV: as many STEPS as there are (one too few)");
        RoomDealer x = asker(13, 1, 6);
        taker(x);
        x.begin();
        x.run(5);
        due.same("5 are there", logFrom(x, 5), "5 0 5 5");
        due.is("ROOM", x.of(0, 1), 5);
        due.is("SQUEEZED no more", x.of(0, 11), 0);
        due.is("the POOL", x.count(8), 0);
        RoomDealer y = asker(13, 5, 6);
        taker(y);
        y.begin();
        y.run(5);
        due.same("1 is there", logFrom(y, 5), "5 0 5 1");
    }

    private static void wokenWithNothing() {
        due.sentence("IV: 5 woken (what it got back; told if it was SQUEEZED): nothing");
        RoomDealer x = asker(13, 6, 6);
        taker(x);
        x.begin();
        x.run(5);
        due.same("told with 0", logFrom(x, 5), "5 0 5 0");
        due.same("woken", Due.allOf(x, 0), "0 0 0 0 0 1 0 0 0 -1 0 0 0");
        RoomDealer y = Due.with(1, 6, 0, 4, 0);
        Due.program(y, Due.MARK, 1, 0, 6, 1005);
        y.begin();
        y.run(6);
        due.same("it had lent nothing", Due.logOf(y), "4 0 4 0; 6 0 5 0; 6 0 6 6");
    }

    private static void wokenUpToTheRoomThatItHad() {
        due.sentence("IV: up to the ROOM that it had (more is there)");
        RoomDealer x = asker(16, 3, 6);
        taker(x);
        endsIn(x, 1, 3);
        x.begin();
        x.run(5);
        due.same("just that is there", logFrom(x, 5), "5 0 5 6");
        due.is("the POOL", x.count(8), 0);
        RoomDealer y = asker(16, 2, 6);
        taker(y);
        endsIn(y, 1, 3);
        y.begin();
        y.run(5);
        due.same("one more is there", logFrom(y, 5), "5 0 5 6");
        due.is("ROOM", y.of(0, 1), 6);
        due.is("the POOL", y.count(8), 1);
        RoomDealer z = Due.with(1, 16, 0, 4, 0);
        Due.program(z, Due.MARK, 1, 0, 2, 1005, 4);
        endsIn(z, 1, 10);
        z.begin();
        z.run(6);
        due.same("it had kept 2", logFrom(z, 4), "4 0 4 4; 6 0 5 4");
        due.is("ROOM", z.of(0, 1), 6);
    }

    private static void wokenWithoutHavingBeenSqueezed() {
        due.sentence("IV: if it was ASLEEP and SQUEEZED (it was not SQUEEZED)");
        RoomDealer x = Due.with(1, 20, 8, 1000, 0);
        Due.program(x, Due.MARK, 1, 0, 6, 1005, 6);
        x.begin();
        x.run(6);
        due.is("nothing is told", x.count(10), 0);
        due.is("ROOM", x.of(0, 1), 12);
        due.is("the POOL", x.count(8), 8);
    }

    /** What goes to the POOL as one is SQUEEZED that has so many cells LIVE, and ROOM 40 or 39. */
    private static int lent(int step, int collector, int floor, int live) {
        int all = 40 / step * step;
        int holds = collector == Due.COPY ? all / 2 : all;
        RoomDealer x = Due.with(step, all, 0, 3, 0);
        Due.program(x, collector, 1, floor, live, 1005, holds - live);
        x.begin();
        due.is("its ROOM", x.of(0, 1), all);
        x.run(3);
        due.is("ROOM and the POOL", x.of(0, 1) + x.count(8), all);
        due.is("SQUEEZED", x.log(0, 2), 4);
        due.is("what went to the POOL", x.log(0, 3), x.count(8));
        return x.log(0, 3);
    }

    private static void keepIsTheLeastMultiple() {
        due.sentence("IV: KEEP: the least multiple of STEP that HOLDS its LIVE cells");
        due.is("LIVE 4 by 4s", lent(4, Due.MARK, 0, 4), 36);
        due.is("LIVE 5 by 4s", lent(4, Due.MARK, 0, 5), 32);
        due.is("LIVE 1 by 4s", lent(4, Due.MARK, 0, 1), 36);
        due.is("LIVE 36 by 4s", lent(4, Due.MARK, 0, 36), 4);
        due.is("LIVE 37 by 4s", lent(4, Due.MARK, 0, 37), 0);
        due.is("LIVE 7 by 1s", lent(1, Due.MARK, 0, 7), 33);
        due.is("LIVE 0 by 4s", lent(4, Due.MARK, 0, 0), 40);
    }

    private static void keepOfCopy() {
        due.sentence("IV: KEEP: HOLDS its LIVE cells (COPY, half of it, cut)");
        due.is("LIVE 4 by 4s: 8", lent(4, Due.COPY, 0, 4), 32);
        due.is("LIVE 5 by 4s: 12", lent(4, Due.COPY, 0, 5), 28);
        due.is("LIVE 3 by 3s: 6", lent(3, Due.COPY, 0, 3), 33);
        due.is("LIVE 4 by 3s: 9 HOLDS 4", lent(3, Due.COPY, 0, 4), 30);
        due.is("LIVE 5 by 3s: 12", lent(3, Due.COPY, 0, 5), 27);
        due.is("LIVE 0 by 3s", lent(3, Due.COPY, 0, 0), 39);
    }

    private static void keepIsNotBelowTheFloor() {
        due.sentence("IV: KEEP: not below its FLOOR");
        due.is("FLOOR 8, LIVE 4", lent(4, Due.MARK, 8, 4), 32);
        due.is("FLOOR 9, LIVE 4", lent(4, Due.MARK, 9, 4), 28);
        due.is("FLOOR 7, LIVE 4", lent(4, Due.MARK, 7, 4), 32);
        due.is("FLOOR 4, LIVE 5", lent(4, Due.MARK, 4, 5), 32);
        due.is("COPY: FLOOR 8, LIVE 4", lent(4, Due.COPY, 8, 4), 32);
        due.is("COPY: FLOOR 9, LIVE 4", lent(4, Due.COPY, 9, 4), 28);
        due.is("FLOOR 40", lent(4, Due.MARK, 40, 0), 0);
        due.is("FLOOR 1, LIVE 0", lent(4, Due.MARK, 1, 0), 36);
    }

    private static void spareOfWhoKeepsAll() {
        due.sentence("IV: SPARE: its ROOM less KEEP, if that is above 0, else 0");
        RoomDealer x = asker(17, 2, 6);
        takerWithFloor(x);
        sleeper(x, 4, 4);
        x.begin();
        x.run(6);
        due.same("a sleeper on its FLOOR is not told to give", logFrom(x, 6), "6 1 3 1; 6 1 3 1; 6 0 1 2; 6 0 6 6");
    }

    private static int askedFor(int step, int collector, int swing, int cells) {
        RoomDealer x = Due.with(step, 64 * step, 0, 4, swing);
        Due.program(x, collector, 1, 0, 1005, cells);
        Due.program(x, Due.MARK, 1, 0, 6 * step, step, -1, step, -1);
        x.terms(step, x.need(0) + x.need(1), 0, 4, swing);
        x.begin();
        x.run(6);
        due.is("what is told", x.log(x.count(9) - 2, 2), 1);
        return x.log(x.count(9) - 2, 3);
    }

    private static void asksForTheLeastMultiple() {
        due.sentence("IV: m is the least multiple of STEP by which more its HEAP HOLDS USED and v");
        due.is("12 with 8", askedFor(4, Due.MARK, 1, 12), 4);
        due.is("13 with 8", askedFor(4, Due.MARK, 2, 13), 8);
        due.is("9 with 8", askedFor(4, Due.MARK, 1, 9), 4);
        due.is("6 with 5 by 1s", askedFor(1, Due.MARK, 1, 6), 1);
        due.is("6 with 0 by 1s", askedFor(1, Due.MARK, 6, 6), 6);
    }

    private static void asksForTheLeastMultipleOfCopy() {
        due.sentence("IV: m: by which more its HEAP HOLDS USED and v (COPY)");
        due.is("6 with 8 that HOLDS 4", askedFor(4, Due.COPY, 1, 6), 4);
        due.is("7 with 8 that HOLDS 4", askedFor(4, Due.COPY, 2, 7), 8);
        due.is("4 with 6 by 3s: 9 HOLDS 4", askedFor(3, Due.COPY, 1, 4), 3);
        due.is("5 with 6 by 3s: 9 does not HOLD 5", askedFor(3, Due.COPY, 2, 5), 6);
        due.is("3 with 5 by 1s", askedFor(1, Due.COPY, 1, 3), 1);
        due.is("3 with 4 by 1s", askedFor(1, Due.COPY, 2, 3), 2);
    }

    private static void makeIsOverAtOnce() {
        due.sentence("IV: if it gets what it needs the MAKE is over at once");
        RoomDealer x = Due.with(1, 13, 0, 4, 2);
        Due.program(x, Due.MARK, 1, 0, 1005, 6, 0);
        taker(x);
        x.begin();
        x.run(5);
        due.same("ahead", Due.allOf(x, 0), "0 4 0 0 0 1 0 0 0 -1 0 0 0");
        x.run(1);
        due.same("made", Due.allOf(x, 0), "0 6 6 6 0 2 1 0 0 -1 0 0 0");
    }

    /** 0 wakes with 3 of its 6, then another one ENDS and leaves so much to the POOL. */
    private static RoomDealer withPool(int room) {
        RoomDealer x = asker(13 + room, 3, 6);
        taker(x);
        endsIn(x, 5, room);
        x.begin();
        x.run(5);
        due.is("ROOM", x.of(0, 1), 3);
        due.is("the POOL", x.count(8), room);
        x.run(1);
        return x;
    }

    private static void poolIsJustEnough() {
        due.sentence("IV: m comes from the POOL as far as it goes (it has just that, or a STEP more)");
        due.same("3 are there", logFrom(withPool(3), 6), "6 0 1 3; 6 0 6 6");
        RoomDealer x = withPool(4);
        due.same("4 are there", logFrom(x, 6), "6 0 1 3; 6 0 6 6");
        due.is("the POOL", x.count(8), 4 - 3 + 6);
        due.is("the taker gave nothing", x.of(1, 1), 10);
    }

    private static void poolIsAStepTooLittle() {
        due.sentence("IV: from the POOL as far as it goes; then from others (it has a STEP too little)");
        RoomDealer x = withPool(2);
        due.same("2 are there", logFrom(x, 6), "6 1 3 1; 6 0 1 3; 6 0 6 6");
        due.is("the taker gave one", x.of(1, 1), 9);
        due.same("none are there", logFrom(withPool(0), 6), "6 1 3 1; 6 1 3 1; 6 1 3 1; 6 0 1 3; 6 0 6 6");
    }

    private static void poolGoesAheadOfSleepers() {
        due.sentence("IV: from the POOL as far as it goes; then from those that are ASLEEP");
        for (int left = 2; left <= 3; left++) {
            RoomDealer x = asker(13 + 4 + left, 3, 6);
            taker(x);
            sleeper(x, 4, 0);
            endsIn(x, 5, left);
            x.begin();
            x.run(6);
            due.same(left + " are in the POOL", logFrom(x, 6),
                    left == 2 ? "6 2 3 1; 6 0 1 3; 6 0 6 6" : "6 0 1 3; 6 0 6 6");
        }
    }

    /**
     * Less can't be: a PROGRAM was dealt its NEED, so what all others KEEP leaves that for it. So
     * here the POOL is empty, and the others are left with what they KEEP.
     */
    private static void poolAndSpareAreJustEnough() {
        due.sentence("IV: it gets nothing if the POOL and the SPARE of all others are less than m together");
        for (int swing = 1; swing <= 6; swing++) {
            RoomDealer x = Due.with(1, 13, 0, 4, swing);
            Due.program(x, Due.MARK, 1, 0, 1005, 6, 0);
            takerWithFloor(x);
            x.begin();
            x.run(6);
            due.is("ROOM", x.of(0, 1), 6);
            due.is("how it is", x.of(0, 0), 0);
            due.is("the taker is left with its FLOOR", x.of(1, 1), 7);
            due.is("the POOL", x.count(8), 0);
        }
        RoomDealer y = Due.with(1, 13, 0, 4, 3);
        takerWithFloor(y);
        Due.program(y, Due.MARK, 1, 0, 1005, 6, 0);
        y.begin();
        y.run(6);
        due.same("all is of PROGRAM 0", logFrom(y, 6), "6 0 3 1; 6 0 3 1; 6 0 3 1; 6 1 1 3");
    }

    private static void whoEndedHasNoSpare() {
        due.sentence("IV: SPARE (0 if it ENDED, FAILED)");
        RoomDealer x = Due.with(1, 13, 0, 4, 3);
        endsIn(x, 1, 0);
        Due.program(x, Due.MARK, 1, 0, 1005, 6);
        takerWithFloor(x);
        x.begin();
        x.run(6);
        due.same("the taker alone gives", logFrom(x, 6), "6 2 3 1; 6 2 3 1; 6 2 3 1; 6 1 1 3; 6 1 6 6");
        due.is("0 has nothing", x.of(0, 1), 0);
    }

    private static void leakerWithinItsPart() {
        due.sentence("IV: or it is a LEAKER and would have more than ALL / PROGRAMS (cut)");
        RoomDealer x = leaker(3);
        x.begin();
        due.is("NOW", x.run(20), 20);
        due.same("a LEAKER with 4", Due.allOf(x, 0), "0 4 4 4 4 0 4 0 0 -1 1 0 0");
        x.run(1);
        due.same("15 / 3: it gets its fifth", logFrom(x, 20), "20 0 7 4; 21 0 1 1");
        RoomDealer y = leaker(2);
        y.begin();
        y.run(20);
        due.is("there is enough in the POOL", y.count(8) >= 1, true);
        y.run(1);
        due.same("14 / 3, cut: it FAILS", logFrom(y, 20), "20 0 7 4; 21 0 2 4");
        due.same("it has nothing any more", Due.allOf(y, 0), "4 0 0 0 4 0 4 0 0 21 1 0 0");
        due.is("all is in the POOL", y.count(8), 14);
    }

    private static void othersMayHaveMore() {
        due.sentence("IV: it is a LEAKER (others may have more than ALL / PROGRAMS)");
        RoomDealer x = asker(13, 3, 6);
        taker(x);
        for (int i = 0; i < 4; i++) {
            endsIn(x, 1, 0);
        }
        x.begin();
        x.run(6);
        due.same("6 of 13 / 6", logFrom(x, 6), "6 1 3 1; 6 1 3 1; 6 1 3 1; 6 0 1 3; 6 0 6 6");
    }

    private static void sleepersByNumbers() {
        due.sentence("IV: then from those that are ASLEEP, by numbers, of each as far as its SPARE goes");
        RoomDealer x = asker(13 + 6, 5, 6);
        takerWithFloor(x);
        sleeper(x, 2, 0);
        sleeper(x, 4, 0);
        x.begin();
        x.run(6);
        due.same("2 at once, then 3 at once", logFrom(x, 6), "6 2 3 2; 6 3 3 3; 6 0 1 5; 6 0 6 6");
        due.is("ROOM of 2", x.of(2, 1), 0);
        due.is("ROOM of 3", x.of(3, 1), 1);
        RoomDealer y = Due.with(1, 19, 0, 4, 5);
        sleeper(y, 4, 0);
        sleeper(y, 2, 0);
        Due.program(y, Due.MARK, 1, 0, 1005, 6);
        takerWithFloor(y);
        y.begin();
        y.run(6);
        due.same("of less numbers than it too", logFrom(y, 6), "6 0 3 4; 6 1 3 1; 6 2 1 5; 6 2 6 6");
    }

    private static void sleepersAreJustEnough() {
        due.sentence("IV: of each as far as its SPARE goes (just enough: no other gives)");
        RoomDealer x = asker(13 + 3 + 9, 3, 6);
        takerWithFloor(x);
        idler(x, 9);
        sleeper(x, 3, 0);
        x.begin();
        x.run(6);
        due.same("the sleeper alone", logFrom(x, 6), "6 3 3 3; 6 0 1 3; 6 0 6 6");
    }

    private static void sleepersAreAStepTooLittle() {
        due.sentence("IV: then STEP by STEP from the others (sleepers have a STEP too little)");
        RoomDealer x = asker(13 + 2 + 9, 3, 6);
        takerWithFloor(x);
        idler(x, 9);
        sleeper(x, 2, 0);
        x.begin();
        x.run(6);
        due.same("the sleeper, then one STEP", logFrom(x, 6), "6 3 3 2; 6 2 3 1; 6 0 1 3; 6 0 6 6");
    }

    private static void sleepersGiveDownToTheirFloor() {
        due.sentence("IV: as far as its SPARE goes (down to its FLOOR)");
        RoomDealer x = asker(13 + 5, 3, 6);
        takerWithFloor(x);
        sleeper(x, 5, 3);
        x.begin();
        x.run(6);
        due.same("2 above its FLOOR", logFrom(x, 6), "6 2 3 2; 6 1 3 1; 6 0 1 3; 6 0 6 6");
        due.is("ROOM of 2", x.of(2, 1), 3);
    }

    private static void greatestSpareGives() {
        due.sentence("IV: each time from the one with the greatest SPARE (the least number)");
        RoomDealer x = asker(13 + 8, 3, 6);
        takerWithFloor(x);
        idler(x, 4);
        idler(x, 4);
        x.begin();
        x.run(6);
        due.same("SPARE 3 4 4, 3 3 4, 3 3 3", logFrom(x, 6), "6 2 3 1; 6 3 3 1; 6 1 3 1; 6 0 1 3; 6 0 6 6");
    }

    /** The sleeper, with ROOM 5, has to give 2, so its HEAP will HOLD 3. */
    private static RoomDealer sleeperThatUsed(int cells) {
        RoomDealer x = asker(13 + 5, 2, 6);
        takerWithFloor(x);
        Due.program(x, Due.MARK, 1, 0, cells, -1, 0, 0, 1009, 5);
        x.begin();
        x.run(6);
        return x;
    }

    private static void sleeperCollectsFirst() {
        due.sentence("IV: whoever gives, and has USED more than its HEAP will HOLD, COLLECTS first (ASLEEP)");
        RoomDealer x = sleeperThatUsed(3);
        due.same("USED 3: it does not", logFrom(x, 6), "6 2 3 2; 6 0 1 2; 6 0 6 6");
        due.same("the sleeper", Due.allOf(x, 2), "2 3 3 0 0 4 1 0 0 -1 0 0 7");
        RoomDealer y = sleeperThatUsed(4);
        due.same("USED 4: it does", logFrom(y, 6), "6 2 0 3; 6 2 3 2; 6 0 1 2; 6 0 6 6");
        due.same("it sleeps no longer for it", Due.allOf(y, 2), "2 3 0 0 0 4 1 3 3 -1 0 0 7");
    }

    /** STEP by STEP the HEAP of 2 will HOLD 4, then 3. */
    private static void otherCollectsFirst() {
        due.sentence("IV: COLLECTS first (one that is not ASLEEP is BUSY so much longer)");
        RoomDealer x = asker(13 + 5, 2, 6);
        takerWithFloor(x);
        Due.program(x, Due.MARK, 1, 0, 4, -1, 0, 0, 0, 0, 0, 0, 5);
        x.begin();
        x.run(6);
        due.same("ahead of the second STEP", logFrom(x, 6), "6 2 3 1; 6 2 0 3; 6 2 3 1; 6 0 1 2; 6 0 6 6");
        due.same("READY, it is BUSY for 3, of which this TICK is one", Due.allOf(x, 2),
                "1 3 0 0 0 5 1 3 3 -1 0 0 2");
        x.run(2);
        due.is("READY again", x.of(2, 0), 0);
        due.is("the place of its next ACT", x.of(2, 5), 5);
        RoomDealer y = asker(13 + 5, 2, 6);
        takerWithFloor(y);
        Due.program(y, Due.MARK, 1, 0, 3, -1, 0, 0, 0, 0, 0, 0, 5);
        y.begin();
        y.run(6);
        due.same("USED 3: it does not", logFrom(y, 6), "6 2 3 1; 6 2 3 1; 6 0 1 2; 6 0 6 6");
        due.same("it goes on", Due.allOf(y, 2), "0 3 3 0 0 6 1 0 0 -1 0 0 0");
    }

    private static void whoActedAlreadyIsBusyInFull() {
        due.sentence("IV: one that is not ASLEEP is BUSY so much longer (its turn in this TICK is over)");
        RoomDealer x = Due.with(1, 18, 0, 4, 2);
        Due.program(x, Due.MARK, 1, 0, 4, -1, 0, 0, 0, 0, 0, 0, 5);
        Due.program(x, Due.MARK, 1, 0, 1005, 6);
        takerWithFloor(x);
        x.begin();
        x.run(6);
        due.same("the LOG", logFrom(x, 6), "6 0 3 1; 6 0 0 3; 6 0 3 1; 6 1 1 2; 6 1 6 6");
        due.same("it is BUSY for 3", Due.allOf(x, 0), "1 3 0 0 0 6 1 3 3 -1 0 0 3");
    }
}
