/** Promises 9 to 11, time, need, falls, in ordinary use. */
public final class TimesTest {
    private static final Due due = new Due();

    public static void main(String[] args) {
        costsOfBothCollectors();
        halvesAreCut();
        deaths();
        deathsThroughRounds();
        needs();
        needsByTerms();
        falls();
        greatest();
        due.end();
    }

    private static void costsOfBothCollectors() {
        RoomDealer x = new RoomDealer();
        Due.program(x, Due.MARK, 1, 0, 3, 4, -1, 5);
        Due.program(x, Due.COPY, 1, 0, 3, 4, -1, 5);
        due.is("MARK: LIVE 3 and 5 are too much", x.time(0, 7), -1);
        due.is("MARK: 4 acts, 1 and LIVE 3 and half of USED 7", x.time(0, 8), 4 + 1 + 3 + 3);
        due.is("MARK: 11 is too little for 7 and 5", x.time(0, 11), 4 + 1 + 3 + 3);
        due.is("MARK: nothing to collect", x.time(0, 12), 4);
        due.is("COPY: half of 15 is 7", x.time(1, 15), -1);
        due.is("COPY: 4 acts, 1 and 2 LIVE", x.time(1, 16), 4 + 1 + 6);
        due.is("COPY: half of 23 is 11", x.time(1, 23), 4 + 1 + 6);
        due.is("COPY: nothing to collect", x.time(1, 24), 4);
    }

    private static void halvesAreCut() {
        RoomDealer x = new RoomDealer();
        Due.program(x, Due.MARK, 2, 0, 1, -1);
        due.is("half of USED 1 is 0: collected in one tick", x.time(0, 1), 5);
        due.is("room 0", x.time(0, 0), -1);
        Due.program(x, Due.COPY, 2, 0, 1, -1);
        due.is("half of 1 is 0", x.time(1, 1), -1);
        due.is("half of 3 is 1", x.time(1, 3), 5);
    }

    private static void deaths() {
        RoomDealer x = new RoomDealer();
        Due.program(x, Due.MARK, 1, 0, -1, 5, -2, -1, -1, 6);
        due.is("a death of none, and a second death, change nothing", x.time(0, 6), 6 + 1 + 2);
        due.is("5 and 6 at once", x.time(0, 11), 6);
        Due.program(x, Due.MARK, 1, 0, 5, 6, -2, 5);
        due.is("the second latest dies: 6 is left", x.time(1, 11), 4 + 1 + 6 + 5);
        due.is("6 and 5 are above 10", x.time(1, 10), -1);
        Due.program(x, Due.MARK, 1, 0, 5, 1005, 0, 1001, 1200);
        due.is("sleeps", x.time(2, 5), 1 + 5 + 1 + 1 + 200);
    }

    /** 59 makes back is the farthest, and makes are counted through all rounds. */
    private static void deathsThroughRounds() {
        RoomDealer x = new RoomDealer();
        int[] acts = new int[60];
        for (int i = 0; i < 59; i++) {
            acts[i] = 1;
        }
        acts[59] = -59;
        Due.program(x, Due.MARK, 1, 0, acts);
        due.is("a death at the end costs nothing", x.time(0, 59), 60);
        Due.program(x, Due.MARK, 2, 0, acts);
        due.is("2 rounds of 59 less one", x.time(1, 117), 120 + 1 + 116 + 58);
        due.is("without a death it would be 118", x.time(1, 116), -1);
        due.is("room for all", x.time(1, 118), 120);
        Due.program(x, Due.MARK, 3, 0, 4, -2);
        due.is("the make of the round ahead dies", x.time(2, 8), 6 + 1 + 4 + 4);
        due.is("two live", x.time(2, 7), -1);
    }

    private static void needs() {
        RoomDealer x = new RoomDealer();
        due.is("no program", x.need(0), -2);
        due.is("program -1", x.need(-1), -2);
        Due.program(x, Due.MARK, 1, 0, 9);
        due.is("MARK: 9 by 8s", x.need(0), 16);
        Due.program(x, Due.COPY, 1, 0, 9);
        due.is("COPY: 18 by 8s", x.need(1), 24);
        Due.program(x, Due.MARK, 1, 17, 9);
        due.is("not below the floor", x.need(2), 24);
        Due.program(x, Due.MARK, 1, 16, 9);
        due.is("the floor itself", x.need(3), 16);
        Due.program(x, Due.MARK, 1, 0, 0, -1, 1001);
        due.is("nothing is made: 0", x.need(4), 0);
        Due.program(x, Due.MARK, 1, 257, 0);
        due.is("a floor above ALL", x.need(5), -1);
        due.is("program 6", x.need(6), -2);
    }

    private static void needsByTerms() {
        RoomDealer x = new RoomDealer();
        Due.program(x, Due.MARK, 1, 0, 60);
        due.is("by 8s", x.need(0), 64);
        x.terms(1, 60, 60, 1, 1);
        due.is("up to ALL, whatever RESERVE is", x.need(0), 60);
        x.terms(1, 59, 0, 1, 1);
        due.is("above ALL", x.need(0), -1);
        due.is("falls without a need", x.falls(0), -1);
        x.terms(50, 100, 0, 1, 1);
        due.is("by 50s", x.need(0), 100);
    }

    private static void falls() {
        RoomDealer x = new RoomDealer();
        due.is("no program", x.falls(0), -2);
        Due.program(x, Due.MARK, 20, 0, 4, -1);
        x.terms(4, 20, 0, 1, 1);
        due.is("97 85 82 76 73: 6 behind 3", x.falls(0), 0);
        x.terms(4, 12, 0, 1, 1);
        due.is("97 85 82: up to ALL alone", x.falls(0), 1);
        x.terms(4, 4, 0, 1, 1);
        due.is("no step", x.falls(0), 1);
        Due.program(x, Due.MARK, 20, 20, 4, -1);
        x.terms(4, 24, 0, 1, 1);
        due.is("73 79: it rises", x.falls(1), 0);
        x.terms(4, 20, 20, 1, 1);
        due.is("from its need on alone, whatever RESERVE is", x.falls(1), 1);
        Due.program(x, Due.MARK, 1, 0, 4, -1, 4, -1);
        x.terms(2, 8, 0, 1, 1);
        due.is("7 7 4: nothing, then 3", x.falls(2), 0);
        x.terms(4, 64, 0, 1, 1);
        due.is("7 4 4 ..", x.falls(2), 1);
        Due.program(x, Due.MARK, 3, 0, 4, -1);
        x.terms(4, 12, 0, 1, 1);
        due.is("time by 4", x.time(3, 4), 12);
        due.is("time by 8", x.time(3, 8), 11);
        due.is("time by 12", x.time(3, 12), 6);
        due.is("1, then 5", x.falls(3), 0);
        due.is("program 4", x.falls(4), -2);
        due.is("program -1", x.falls(-1), -2);
    }

    private static void greatest() {
        RoomDealer x = new RoomDealer();
        int[] acts = new int[60];
        for (int i = 0; i < 60; i++) {
            acts[i] = i == 59 ? -59 : 99;
        }
        Due.program(x, Due.COPY, 40, 0, acts);
        due.is("too much for any room", x.time(0, 4096), -1);
        for (int i = 0; i < 60; i++) {
            acts[i] = i % 2 == 0 ? 99 : -1;
        }
        Due.program(x, Due.COPY, 40, 0, acts);
        due.is("collected 1199 times", x.time(1, 198), 2400 + 1199);
        for (int i = 0; i < 60; i++) {
            acts[i] = 1200;
        }
        Due.program(x, Due.COPY, 40, 0, acts);
        due.is("the longest time asleep", x.time(2, 0), 480000);
    }
}
