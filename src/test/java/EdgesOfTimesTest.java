/** The boundary cases of promises 9 to 14 and of Terms II and III about HEAPS, TIMES and SHARES. */
public final class EdgesOfTimesTest {
    private static final Due due = new Due();
    private static final int LEAST = Integer.MIN_VALUE;
    private static final int GREATEST = Integer.MAX_VALUE;

    public static void main(String[] args) {
        copyHoldsHalf();
        markHoldsAll();
        makeJustFits();
        usedHasTheDead();
        copyCost();
        markCost();
        usedIsLiveThen();
        failsThoughCollected();
        failsInALateRound();
        actTakesOneTick();
        timeByLeastAndGreatestRoom();
        timeOfAnyRoom();
        timeNone();
        timeOfNoProgram();
        timeOfAnotherRoom();
        needIsTheLeastMultiple();
        needIsNotBelowTheFloor();
        needIsNotAboveAll();
        needOfNothing();
        needOfNoProgram();
        fallsAsMuch();
        fallsByNone();
        fallsMoreThanTheOneAhead();
        rises();
        fallsFromNeedToAllAlone();
        fallsWithoutAStep();
        fallsWithoutNeed();
        fallsOfNoProgram();
        dealOfNone();
        oneHasNoNeed();
        needsAreJustWhatIsDealt();
        needsAreAStepTooMuch();
        reserveIsNotDealt();
        lastStepIsDealt();
        savesMostOfSeveral();
        savesOne();
        endsWhenNoTimeFalls();
        seesOneStepAlone();
        bestIsNotAboveWhatIsDealt();
        bestTakesTheFirst();
        bestOfSixAndSixtyFour();
        bestOfFewerThanAhead();
        bestIsNotBelowNeed();
        bestCantBe();
        shareOfOthers();
        shareWithout();
        shareByTheLatest();
        shareBehindTerms();
        shareBehindProgram();
        shareBehindClear();
        shareBehindWhatCantBe();
        due.end();
    }

    private static RoomDealer one(int collector, int rounds, int... acts) {
        RoomDealer x = new RoomDealer();
        Due.program(x, collector, rounds, 0, acts);
        return x;
    }

    private static void copyHoldsHalf() {
        due.sentence("II: a HEAP of ROOM r HOLDS r / 2 cells (COPY; cut)");
        RoomDealer x = one(Due.COPY, 1, 5);
        due.is("9 HOLDS 4", x.time(0, 9), -1);
        due.is("10 HOLDS 5", x.time(0, 10), 1);
        RoomDealer y = one(Due.COPY, 1, 6);
        due.is("11 HOLDS 5", y.time(0, 11), -1);
        due.is("12 HOLDS 6", y.time(0, 12), 1);
        RoomDealer z = one(Due.COPY, 1, 1);
        due.is("1 HOLDS 0", z.time(0, 1), -1);
        due.is("2 HOLDS 1", z.time(0, 2), 1);
    }

    private static void markHoldsAll() {
        due.sentence("II: or r (MARK)");
        RoomDealer x = one(Due.MARK, 1, 5);
        due.is("4 HOLDS 4", x.time(0, 4), -1);
        due.is("5 HOLDS 5", x.time(0, 5), 1);
    }

    private static void makeJustFits() {
        due.sentence("II: FITS if USED and v are not above what the HEAP HOLDS");
        RoomDealer x = one(Due.MARK, 1, 3, -1, 4);
        due.is("3 and 4 in 7: as much", x.time(0, 7), 3);
        due.is("3 and 4 in 6: one above, 1 and 3 / 2 to COLLECT", x.time(0, 6), 3 + 2);
        RoomDealer y = one(Due.COPY, 1, 3, -1, 4);
        due.is("3 and 4 in 14: as much", y.time(0, 14), 3);
        due.is("3 and 4 in 13: one above, 1 to COLLECT", y.time(0, 13), 3 + 1);
    }

    private static void usedHasTheDead() {
        due.sentence("II: USED those and of what DIED since it was COLLECTED last");
        RoomDealer x = one(Due.MARK, 1, 2, 2, -1, -2, 2, 2);
        due.is("8 for four of 2", x.time(0, 8), 6);
        due.is("7 is too little for the last", x.time(0, 7), 6 + 1 + 2 + 3);
        due.is("what DIED ahead of that is USED no more", x.time(0, 4), 6 + 1 + 2);
    }

    private static void copyCost() {
        due.sentence("II: to COLLECT costs 1 and 2 LIVE (COPY)");
        due.is("LIVE 0", one(Due.COPY, 1, 5, -1, 5).time(0, 10), 3 + 1);
        due.is("LIVE 1", one(Due.COPY, 1, 1, 5, -1, 5).time(0, 12), 4 + 3);
        due.is("LIVE 4", one(Due.COPY, 1, 4, 5, -1, 5).time(0, 18), 4 + 9);
    }

    private static void markCost() {
        due.sentence("II: or 1, LIVE and USED / 2 (MARK; cut)");
        due.is("LIVE 0, USED 1", one(Due.MARK, 1, 1, -1, 1).time(0, 1), 3 + 1);
        due.is("LIVE 0, USED 2", one(Due.MARK, 1, 2, -1, 2).time(0, 2), 3 + 2);
        due.is("LIVE 0, USED 3", one(Due.MARK, 1, 3, -1, 3).time(0, 3), 3 + 2);
        due.is("LIVE 1, USED 2", one(Due.MARK, 1, 1, 1, -1, 1).time(0, 2), 4 + 3);
        due.is("LIVE 2, USED 3", one(Due.MARK, 1, 2, 1, -1, 1).time(0, 3), 4 + 4);
    }

    private static void usedIsLiveThen() {
        due.sentence("II: USED is LIVE then");
        RoomDealer x = one(Due.MARK, 1, 1, 4, -1, 4, -1, 4);
        due.is("by 5: COLLECTED twice, 1 and 1 and 5 / 2", x.time(0, 5), 6 + 4 + 4);
        due.is("by 9: once, 1 and 1 and 9 / 2", x.time(0, 9), 6 + 6);
        due.is("by 13: never", x.time(0, 13), 6);
    }

    private static void failsThoughCollected() {
        due.sentence("II: if it doesn't FIT (then), the PROGRAM FAILS");
        RoomDealer x = one(Due.MARK, 1, 4, 4, -1, 5);
        due.is("LIVE 4 and 5 in 8", x.time(0, 8), -1);
        due.is("LIVE 4 and 5 in 9", x.time(0, 9), 4 + 1 + 4 + 4);
        RoomDealer y = one(Due.COPY, 1, 4, 4, -1, 5);
        due.is("COPY in 17", y.time(0, 17), -1);
        due.is("COPY in 18", y.time(0, 18), 4 + 1 + 8);
    }

    private static void failsInALateRound() {
        due.sentence("II: TIME: until it ENDS (it FAILS in its last ROUND)");
        RoomDealer x = one(Due.MARK, 40, 1, 0);
        due.is("by 39", x.time(0, 39), -1);
        due.is("by 40", x.time(0, 40), 80);
    }

    private static void actTakesOneTick() {
        due.sentence("II: an ACT takes one TICK, SLEEP so many");
        due.is("MAKE", one(Due.MARK, 1, 1).time(0, 9), 1);
        due.is("DIES", one(Due.MARK, 1, -1).time(0, 9), 1);
        due.is("0", one(Due.MARK, 1, 0).time(0, 9), 1);
        due.is("SLEEP for 1", one(Due.MARK, 1, 1001).time(0, 9), 1);
        due.is("SLEEP for 200", one(Due.MARK, 1, 1200).time(0, 9), 200);
        int[] longest = new int[60];
        java.util.Arrays.fill(longest, 1200);
        due.is("the longest of all", one(Due.MARK, 40, longest).time(0, 0), 480000);
    }

    private static void timeByLeastAndGreatestRoom() {
        due.sentence("9: TIME by ROOM (0 .. 4096)");
        RoomDealer x = one(Due.MARK, 1, 0);
        due.is("0", x.time(0, 0), 1);
        due.is("4096", x.time(0, 4096), 1);
        int[] acts = new int[60];
        for (int i = 0; i < 42; i++) {
            acts[i] = i < 41 ? 99 : 37;
        }
        due.is("4096 cells in 4096", one(Due.MARK, 1, acts).time(0, 4096), 60);
        due.is("4096 cells in 4095", one(Due.MARK, 1, acts).time(0, 4095), -1);
        acts[41] = 38;
        due.is("4097 cells in 4096", one(Due.MARK, 1, acts).time(0, 4096), -1);
    }

    private static void timeOfAnyRoom() {
        due.sentence("9: TIME by ROOM (whatever STEP, ALL and FLOOR are)");
        RoomDealer x = Due.with(8, 8, 8, 1, 0);
        Due.program(x, Due.MARK, 1, 1000, 9);
        due.is("no multiple of STEP, above ALL, below FLOOR", x.time(0, 9), 1);
        due.is("one less", x.time(0, 8), -1);
        x.clear();
        Due.program(x, Due.MARK, 1, 0, 3);
        x.begin();
        due.is("while it RUNS", x.time(0, 3), 1);
    }

    private static void timeNone() {
        due.sentence("9: NONE: it FAILS");
        due.is("ROOM 0 for 1", one(Due.MARK, 1, 1).time(0, 0), -1);
        due.is("at the last ACT", one(Due.MARK, 1, 0, 0, 9).time(0, 8), -1);
        due.is("at the first ACT", one(Due.MARK, 1, 9, -1, 0).time(0, 8), -1);
    }

    private static void timeOfNoProgram() {
        due.sentence("9: -2: there is none such");
        RoomDealer x = one(Due.MARK, 1, 1);
        for (int program : new int[] {-1, 1, 5, 6, LEAST, GREATEST}) {
            due.is("time(" + program + ", 8)", x.time(program, 8), -2);
        }
        x.clear();
        due.is("cleared", x.time(0, 8), -2);
    }

    private static void timeOfAnotherRoom() {
        due.sentence("9: -2: another ROOM");
        RoomDealer x = one(Due.MARK, 1, 0);
        for (int room : new int[] {-1, 4097, LEAST, GREATEST}) {
            due.is("time(0, " + room + ")", x.time(0, room), -2);
        }
        RoomDealer y = one(Due.MARK, 1, 9);
        due.is("no ROOM, though it would FAIL", y.time(0, -1), -2);
    }

    private static int need(int step, int all, int collector, int floor, int... acts) {
        RoomDealer x = Due.with(step, all, 0, 1, 0);
        Due.program(x, collector, 1, floor, acts);
        return x.need(0);
    }

    private static void needIsTheLeastMultiple() {
        due.sentence("II, 10: NEED: the least multiple of STEP by which it does not FAIL");
        due.is("8 by 8s", need(8, 64, Due.MARK, 0, 8), 8);
        due.is("9 by 8s", need(8, 64, Due.MARK, 0, 9), 16);
        due.is("COPY, 4 by 8s", need(8, 64, Due.COPY, 0, 4), 8);
        due.is("COPY, 5 by 8s", need(8, 64, Due.COPY, 0, 5), 16);
        due.is("COPY, 4 by 3s: 9 HOLDS 4", need(3, 63, Due.COPY, 0, 4), 9);
        due.is("COPY, 5 by 3s: 9 does not", need(3, 63, Due.COPY, 0, 5), 12);
        due.is("by what it FAILS, not by what it costs", need(8, 64, Due.MARK, 0, 8, -1, 8, -1, 8), 8);
    }

    private static void needIsNotBelowTheFloor() {
        due.sentence("II, 10: NEED: not below its FLOOR");
        due.is("FLOOR 16", need(8, 64, Due.MARK, 16, 1), 16);
        due.is("FLOOR 17", need(8, 64, Due.MARK, 17, 1), 24);
        due.is("FLOOR 15", need(8, 64, Due.MARK, 15, 1), 16);
        due.is("FLOOR 15, 17 are made", need(8, 64, Due.MARK, 15, 17), 24);
        due.is("FLOOR 1, nothing is made", need(8, 64, Due.MARK, 1, 0), 8);
        due.is("COPY: a FLOOR is ROOM, not what it HOLDS", need(8, 64, Due.COPY, 16, 8), 16);
    }

    private static void needIsNotAboveAll() {
        due.sentence("II, 10: NEED: not above ALL; NONE: there is none");
        due.is("64 in ALL 64", need(8, 64, Due.MARK, 0, 64), 64);
        due.is("65 in ALL 64", need(8, 64, Due.MARK, 0, 65), -1);
        due.is("FLOOR 64", need(8, 64, Due.MARK, 64, 0), 64);
        due.is("FLOOR 65", need(8, 64, Due.MARK, 65, 0), -1);
        due.is("COPY: 32 in ALL 64", need(8, 64, Due.COPY, 0, 32), 64);
        due.is("COPY: 33 in ALL 64", need(8, 64, Due.COPY, 0, 33), -1);
        due.is("64 in 64 STEPS of 1", need(1, 64, Due.MARK, 0, 64), 64);
        due.is("65 in 64 STEPS of 1", need(1, 64, Due.MARK, 0, 65), -1);
        due.is("FLOOR 1000 in ALL 1", need(1, 1, Due.MARK, 1000, 0), -1);
        RoomDealer x = Due.with(8, 64, 64, 1, 0);
        Due.program(x, Due.MARK, 1, 0, 64);
        due.is("ALL, not what is DEALT", x.need(0), 64);
        x.terms(8, 56, 0, 1, 0);
        due.is("by TERMS that have come since", x.need(0), -1);
    }

    private static void needOfNothing() {
        due.sentence("II, 10: NEED of one that MAKES nothing");
        due.is("FLOOR 0", need(8, 64, Due.MARK, 0, 0, -1, 1001), 0);
        due.is("COPY", need(8, 64, Due.COPY, 0, 0, -1, 1001), 0);
    }

    private static void needOfNoProgram() {
        due.sentence("10: -2: there is no such PROGRAM");
        RoomDealer x = one(Due.MARK, 1, 1);
        for (int program : new int[] {-1, 1, 6, LEAST, GREATEST}) {
            due.is("need(" + program + ")", x.need(program), -2);
        }
    }

    /** The TIMES by one STEP after the other, from the NEED on. */
    private static void times(RoomDealer x, int... want) {
        int room = x.need(0);
        for (int time : want) {
            due.is("time(0, " + room + ")", x.time(0, room), time);
            room += x.count(1);
        }
    }

    private static void fallsAsMuch() {
        due.sentence("11: 1: nor falls more than by the one ahead (as much)");
        RoomDealer x = Due.with(1, 10, 0, 1, 0);
        Due.program(x, Due.MARK, 4, 0, 1, -2);
        times(x, 14, 11, 8, 8, 8);
        due.is("3, 3, 0, ..", x.falls(0), 1);
        RoomDealer y = Due.with(2, 8, 0, 1, 0);
        Due.program(y, Due.COPY, 3, 0, 1, -1);
        times(y, 8, 7, 6, 6);
        due.is("1, 1, 0", y.falls(0), 1);
    }

    private static void fallsByNone() {
        due.sentence("11: 1: by no STEP it rises (it stays)");
        RoomDealer x = Due.with(1, 64, 0, 1, 0);
        Due.program(x, Due.MARK, 3, 0, 0, 1001);
        due.is("6, 6, ..", x.falls(0), 1);
    }

    private static void fallsMoreThanTheOneAhead() {
        due.sentence("11: 0: it falls more than by the one ahead");
        RoomDealer x = Due.with(2, 20, 0, 1, 0);
        Due.program(x, Due.MARK, 2, 0, 3, -2, -1, 1);
        times(x, 15, 12, 8, 8);
        due.is("3, then 4", x.falls(0), 0);
        RoomDealer y = Due.with(4, 16, 0, 1, 0);
        Due.program(y, Due.COPY, 2, 0, -1, 4, -2);
        times(y, 7, 7, 6);
        due.is("0, then 1, by the last STEP", y.falls(0), 0);
        y.terms(4, 12, 0, 1, 0);
        due.is("0 alone", y.falls(0), 1);
    }

    private static void rises() {
        due.sentence("11: 0: it rises");
        RoomDealer x = Due.with(1, 10, 0, 1, 0);
        Due.program(x, Due.MARK, 2, 0, 1, 1, -1, 4, -1);
        times(x, 19, 16, 17, 17);
        due.is("3, -1, ..", x.falls(0), 0);
        x.clear();
        Due.program(x, Due.MARK, 2, 7, 1, 1, -1, 4, -1);
        times(x, 16, 17);
        due.is("by the first STEP", x.falls(0), 0);
    }

    private static void fallsFromNeedToAllAlone() {
        due.sentence("11: by no STEP from its NEED on, up to ALL");
        RoomDealer x = Due.with(1, 10, 0, 1, 0);
        Due.program(x, Due.MARK, 2, 8, 1, 1, -1, 4, -1);
        due.is("its FLOOR is above where it rises", x.falls(0), 1);
        x.clear();
        Due.program(x, Due.MARK, 2, 0, 1, 1, -1, 4, -1);
        x.terms(1, 7, 0, 1, 0);
        due.is("ALL is where it rises from", x.falls(0), 1);
        x.terms(1, 8, 0, 1, 0);
        due.is("ALL is where it rises to", x.falls(0), 0);
        x.terms(1, 8, 8, 1, 0);
        due.is("ALL, not what is DEALT", x.falls(0), 0);
    }

    private static void fallsWithoutAStep() {
        due.sentence("11: NEED is ALL: there is no STEP");
        RoomDealer x = Due.with(8, 64, 0, 1, 0);
        Due.program(x, Due.MARK, 1, 0, 60);
        due.is("falls(0)", x.falls(0), 1);
    }

    private static void fallsWithoutNeed() {
        due.sentence("11: NONE: it has no NEED");
        RoomDealer x = Due.with(8, 64, 0, 1, 0);
        Due.program(x, Due.MARK, 1, 0, 65);
        due.is("too much is made", x.falls(0), -1);
        Due.program(x, Due.MARK, 1, 65, 0);
        due.is("too high a FLOOR", x.falls(1), -1);
    }

    private static void fallsOfNoProgram() {
        due.sentence("11: -2: there is no such PROGRAM");
        RoomDealer x = one(Due.MARK, 1, 1);
        for (int program : new int[] {-1, 1, 6, LEAST, GREATEST}) {
            due.is("falls(" + program + ")", x.falls(program), -2);
        }
    }

    private static void dealOfNone() {
        due.sentence("12, 13: the sum of TIMES (of no PROGRAMS)");
        RoomDealer x = new RoomDealer();
        due.is("deal()", x.deal(), 0);
        due.is("best()", x.best(), 0);
        x.terms(8, 8, 8, 1, 0);
        due.is("deal() of nothing", x.deal(), 0);
        due.is("best() of nothing", x.best(), 0);
    }

    private static void deals(RoomDealer x, int sum, String shares) {
        int n = x.count(0);
        due.is("deal()", x.deal(), sum);
        due.same("SHARES", Due.shares(x, n), shares);
    }

    private static void best(RoomDealer x, int sum, String shares) {
        int n = x.count(0);
        due.is("best()", x.best(), sum);
        due.same("SHARES at best", Due.shares(x, n), shares);
    }

    private static void oneHasNoNeed() {
        due.sentence("III, 12: it can't be if one has none");
        for (int which = 0; which < 3; which++) {
            RoomDealer x = Due.with(8, 64, 0, 1, 0);
            for (int i = 0; i < 3; i++) {
                Due.program(x, Due.MARK, 1, 0, i == which ? 65 : 1);
            }
            deals(x, -1, "-1 -1 -1");
        }
    }

    private static void needsAreJustWhatIsDealt() {
        due.sentence("III, 12: each PROGRAM gets its NEED (as much as is DEALT)");
        RoomDealer x = Due.with(8, 40, 0, 1, 0);
        Due.program(x, Due.MARK, 1, 0, 9);
        Due.program(x, Due.COPY, 1, 0, 9);
        deals(x, 2, "16 24");
        best(x, 2, "16 24");
    }

    private static void needsAreAStepTooMuch() {
        due.sentence("III, 12: it can't be if these are more than is DEALT");
        RoomDealer x = Due.with(8, 32, 0, 1, 0);
        Due.program(x, Due.MARK, 1, 0, 9);
        Due.program(x, Due.COPY, 1, 0, 9);
        deals(x, -1, "-1 -1");
        best(x, -1, "-1 -1");
    }

    private static void reserveIsNotDealt() {
        due.sentence("III: DEALT is ALL less RESERVE");
        RoomDealer x = Due.with(8, 48, 8, 1, 0);
        Due.program(x, Due.MARK, 1, 0, 9);
        Due.program(x, Due.COPY, 1, 0, 9);
        deals(x, 2, "16 24");
        x.terms(8, 48, 16, 1, 0);
        deals(x, -1, "-1 -1");
        best(x, -1, "-1 -1");
        x.terms(8, 48, 48, 1, 0);
        deals(x, -1, "-1 -1");
        x.clear();
        Due.program(x, Due.MARK, 1, 0, 0);
        Due.program(x, Due.COPY, 1, 0, 1002);
        deals(x, 3, "0 0");
        best(x, 3, "0 0");
    }

    /** By 63 it is COLLECTED for 1 and 62 and 63 / 2, by 64 never. */
    private static void lastStepIsDealt() {
        due.sentence("III, 12: as long as a STEP is left");
        RoomDealer x = Due.with(1, 64, 0, 1, 0);
        Due.program(x, Due.MARK, 1, 0, 62, 1, -1, 1, -1);
        deals(x, 5, "64");
        x.terms(1, 64, 1, 1, 0);
        deals(x, 5 + 1 + 62 + 31, "63");
        x.terms(1, 64, 0, 1, 0);
        Due.program(x, Due.MARK, 1, 0, 1);
        deals(x, 5 + 1 + 62 + 31 + 1, "63 1");
    }

    private static void savesMostOfSeveral() {
        due.sentence("III, 12: the PROGRAM whose TIME falls most gets it (of several the least number)");
        RoomDealer x = Due.with(4, 20, 0, 1, 0);
        Due.program(x, Due.MARK, 1, 4, 0);
        for (int i = 0; i < 3; i++) {
            Due.program(x, Due.MARK, 2, 0, 4, -1);
        }
        deals(x, 1 + 4 + 7 + 7, "4 8 4 4");
        x.terms(4, 24, 0, 1, 0);
        deals(x, 1 + 4 + 4 + 7, "4 8 8 4");
        x.clear();
        Due.program(x, Due.COPY, 2, 0, 2, -1);
        Due.program(x, Due.MARK, 2, 0, 4, -1);
        x.terms(4, 12, 0, 1, 0);
        due.is("1 falls by 1", x.time(0, 4) - x.time(0, 8), 1);
        due.is("the other by 3", x.time(1, 4) - x.time(1, 8), 3);
        deals(x, 5 + 4, "4 8");
    }

    private static void savesOne() {
        due.sentence("III, 12: the PROGRAM whose TIME falls most (by 1) gets it");
        RoomDealer x = Due.with(2, 12, 0, 1, 0);
        Due.program(x, Due.COPY, 3, 0, 1, -1);
        times(x, 8, 7, 6, 6);
        deals(x, 6, "6");
    }

    private static void endsWhenNoTimeFalls() {
        due.sentence("III, 12: it ends when no TIME falls by one");
        RoomDealer x = Due.with(1, 64, 0, 1, 0);
        Due.program(x, Due.MARK, 1, 3, 1, 1);
        Due.program(x, Due.MARK, 2, 7, 1, 1, -1, 4, -1);
        deals(x, 2 + 16, "3 7");
        due.is("the first stays, the second rises", x.time(1, 8), 17);
    }

    private static void seesOneStepAlone() {
        due.sentence("III, 12: falls most by one STEP more (not by two)");
        RoomDealer x = Due.with(4, 16, 0, 1, 0);
        Due.program(x, Due.COPY, 2, 0, -1, 4, -2);
        times(x, 7, 7, 6);
        deals(x, 7, "8");
        best(x, 6, "16");
    }

    private static void bestIsNotAboveWhatIsDealt() {
        due.sentence("III, 13: together not above what is DEALT");
        RoomDealer x = Due.with(4, 16, 0, 1, 0);
        Due.program(x, Due.COPY, 2, 0, -1, 4, -2);
        best(x, 6, "16");
        x.terms(4, 16, 4, 1, 0);
        best(x, 7, "8");
        x.terms(4, 20, 0, 1, 0);
        best(x, 6, "16");
        Due.program(x, Due.MARK, 1, 0, 4);
        best(x, 7, "16 4");
        x.terms(4, 16, 0, 1, 0);
        best(x, 8, "8 4");
    }

    private static void bestTakesTheFirst() {
        due.sentence("III, 13: of several the first (PROGRAM 0's the least, then 1's, ..)");
        RoomDealer x = Due.with(4, 20, 0, 1, 0);
        for (int i = 0; i < 4; i++) {
            Due.program(x, Due.MARK, 2, 0, 4, -1);
        }
        best(x, 3 * 7 + 4, "4 4 4 8");
        x.terms(4, 24, 0, 1, 0);
        best(x, 2 * 7 + 2 * 4, "4 4 8 8");
        x.terms(4, 256, 0, 1, 0);
        best(x, 4 * 4, "8 8 8 8");
    }

    private static void bestOfSixAndSixtyFour() {
        due.sentence("III, 13: of all SHARES (6 PROGRAMS, 64 STEPS)");
        RoomDealer x = Due.with(1, 64, 0, 1, 0);
        for (int i = 0; i < 5; i++) {
            Due.program(x, Due.MARK, 2, 0, 4, -1);
        }
        Due.program(x, Due.MARK, 1, 23, 0);
        best(x, 5 * 4 + 1, "8 8 8 8 8 23");
        x.terms(1, 64, 4, 1, 0);
        best(x, 7 + 4 * 4 + 1, "4 8 8 8 8 23");
    }

    private static void bestOfFewerThanAhead() {
        due.sentence("III, 13: of all SHARES (nothing is left of those ahead)");
        RoomDealer x = Due.with(4, 16, 0, 1, 0);
        for (int i = 0; i < 4; i++) {
            Due.program(x, Due.MARK, 2, 0, 4, -1);
        }
        best(x, 4 * 7, "4 4 4 4");
        x.clear();
        for (int i = 0; i < 3; i++) {
            Due.program(x, Due.MARK, 2, 0, 4, -1);
        }
        best(x, 7 + 7 + 4, "4 4 8");
        x.clear();
        due.is("best() of none", x.best(), 0);
        Due.program(x, Due.MARK, 2, 0, 4, -1);
        best(x, 4, "8");
    }

    private static void bestIsNotBelowNeed() {
        due.sentence("III, 13: each not below the PROGRAM's NEED and with a TIME");
        RoomDealer x = Due.with(4, 64, 0, 1, 0);
        Due.program(x, Due.MARK, 1, 9, 1);
        Due.program(x, Due.COPY, 1, 0, 3);
        best(x, 2, "12 8");
    }

    private static void bestCantBe() {
        due.sentence("13: likewise (NONE: it can't be, SHARES are none then)");
        for (int which = 0; which < 3; which++) {
            RoomDealer x = Due.with(8, 64, 0, 1, 0);
            for (int i = 0; i < 3; i++) {
                Due.program(x, Due.MARK, 1, 0, i == which ? 65 : 1);
            }
            best(x, -1, "-1 -1 -1");
        }
    }

    private static void shareOfOthers() {
        due.sentence("14: the SHARE of a PROGRAM (of none such)");
        RoomDealer x = one(Due.MARK, 1, 1);
        x.deal();
        due.is("share(0)", x.share(0), 8);
        for (int program : new int[] {-1, 1, 5, 6, LEAST, GREATEST}) {
            due.is("share(" + program + ")", x.share(program), -1);
        }
    }

    private static void shareWithout() {
        due.sentence("14: NONE without");
        RoomDealer x = one(Due.MARK, 1, 1);
        due.is("ahead of any", x.share(0), -1);
        x.need(0);
        x.time(0, 8);
        x.falls(0);
        due.is("need(), time(), falls() deal nothing", x.share(0), -1);
        x.deal();
        due.is("a SHARE of 0 is one", oneOfNothing().share(0), 0);
    }

    private static RoomDealer oneOfNothing() {
        RoomDealer x = one(Due.MARK, 1, 0);
        x.deal();
        return x;
    }

    private static void shareByTheLatest() {
        due.sentence("14: by the latest deal(), best() or begin()");
        RoomDealer x = Due.with(4, 16, 0, 1, 0);
        Due.program(x, Due.COPY, 2, 0, -1, 4, -2);
        x.deal();
        due.is("deal()", x.share(0), 8);
        x.best();
        due.is("best()", x.share(0), 16);
        x.begin();
        due.is("begin()", x.share(0), 8);
        x.best();
        due.is("best() while it RUNS", x.share(0), 16);
        due.is("which gives no ROOM", x.of(0, 1), 8);
        x.run(1);
        x.stop();
        due.is("run() and stop() deal nothing", x.share(0), 16);
    }

    private static void shareBehindTerms() {
        due.sentence("14: none any more behind terms() that were not refused");
        RoomDealer x = one(Due.MARK, 1, 1);
        x.deal();
        due.is("refused", x.terms(8, 7, 0, 50, 2), -2);
        due.is("share(0)", x.share(0), 8);
        due.is("the same again", x.terms(8, 256, 0, 50, 2), 0);
        due.is("share(0)", x.share(0), -1);
        x.begin();
        due.is("refused, as it RUNS", x.terms(8, 256, 0, 50, 2), -9);
        due.is("share(0)", x.share(0), 8);
    }

    private static void shareBehindProgram() {
        due.sentence("14: none any more behind program() that was not refused");
        RoomDealer x = one(Due.MARK, 1, 1);
        x.deal();
        due.is("refused", x.program(0, 2, 1, 0), -2);
        due.is("refused", x.program(1, 0, 1, 0), -5);
        due.is("share(0)", x.share(0), 8);
        due.is("one more", x.program(0, 0, 1, 0), 1);
        due.same("SHARES", Due.shares(x, 2), "-1 -1");
        x.begin();
        due.is("refused, as it RUNS", x.program(0, 0, 1, 0), -9);
        due.same("SHARES", Due.shares(x, 2), "8 8");
    }

    private static void shareBehindClear() {
        due.sentence("14: none any more behind clear()");
        RoomDealer x = one(Due.MARK, 1, 1);
        x.deal();
        x.clear();
        due.is("share(0)", x.share(0), -1);
        x.deal();
        due.is("dealt to none", x.share(0), -1);
        x.program(0, 1, 1, 0);
        due.is("a new PROGRAM", x.share(0), -1);
    }

    private static void shareBehindWhatCantBe() {
        due.sentence("12, 13, 15: SHARES are none then");
        RoomDealer x = Due.with(8, 8, 8, 1, 0);
        Due.program(x, Due.MARK, 1, 0, 0);
        x.deal();
        due.is("share(0)", x.share(0), 0);
        Due.program(x, Due.MARK, 1, 0, 1);
        due.is("deal()", x.deal(), -1);
        due.same("SHARES", Due.shares(x, 2), "-1 -1");
        due.is("best()", x.best(), -1);
        due.same("SHARES", Due.shares(x, 2), "-1 -1");
        due.is("begin()", x.begin(), false);
        due.same("SHARES", Due.shares(x, 2), "-1 -1");
    }
}
