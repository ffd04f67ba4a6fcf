/** Promises 6 to 8, terms, program, clear, in ordinary use. */
public final class ProgramsTest {
    private static final Due due = new Due();

    public static void main(String[] args) {
        termsInOrder();
        programsInOrder();
        nothingWhileItRuns();
        clears();
        due.end();
    }

    private static String termsOf(RoomDealer x) {
        return x.count(1) + " " + x.count(2) + " " + x.count(3) + " " + x.count(4) + " " + x.count(5);
    }

    private static void termsInOrder() {
        int[][] sound = {
            {1, 1, 0, 1, 0}, {1, 64, 64, 1000, 9}, {64, 64, 64, 1, 1}, {64, 4096, 4032, 500, 5},
            {3, 192, 3, 2, 2}, {63, 4032, 63, 7, 9}, {8, 512, 8, 1, 0},
        };
        for (int[] t : sound) {
            RoomDealer x = new RoomDealer();
            due.is("sound terms", x.terms(t[0], t[1], t[2], t[3], t[4]), 0);
            due.same("the terms are these", termsOf(x),
                    t[0] + " " + t[1] + " " + t[2] + " " + t[3] + " " + t[4]);
        }
    }

    private static void programsInOrder() {
        RoomDealer x = new RoomDealer();
        int[] acts = {99, 1, 0, -1, -59, 1001, 1200};
        for (int i = 0; i < 6; i++) {
            due.is("a program more", Due.program(x, (i + 1) % 2, i == 0 ? 40 : 1, i == 1 ? 1000 : 0, acts), i);
            due.is("programs", x.count(0), i + 1);
        }
        due.is("a seventh", Due.program(x, 0, 1, 0, acts), -3);
        due.is("programs", x.count(0), 6);
        due.is("40 rounds of 206 ticks", x.time(0, 4096), 40 * 206);
        due.is("1 round", x.time(1, 4096), 206);
        RoomDealer y = new RoomDealer();
        y.row(0, 0, 60);
        due.is("a row of 60", y.program(0, 0, 1, 0), 0);
        due.is("takes 60 ticks", y.time(0, 0), 60);
    }

    private static void nothingWhileItRuns() {
        RoomDealer x = new RoomDealer();
        Due.program(x, Due.MARK, 1, 0, 1, 0);
        x.begin();
        due.is("terms while it runs", x.terms(4, 8, 0, 1, 1), -9);
        due.same("the terms stay", termsOf(x), "8 256 0 50 2");
        due.is("program while it runs", x.program(0, 0, 1, 0), -9);
        due.is("programs", x.count(0), 1);
        x.run(2);
        due.is("all ended: it runs yet", x.terms(4, 8, 0, 1, 1), -9);
        x.stop();
        due.is("terms behind stop", x.terms(4, 8, 0, 1, 1), 0);
        due.is("program behind stop", x.program(0, 0, 1, 0), 1);
    }

    private static void clears() {
        RoomDealer x = new RoomDealer();
        Due.program(x, Due.MARK, 1, 0, 8, 1009);
        Due.program(x, Due.MARK, 1, 0, 1);
        x.terms(4, 32, 4, 3, 1);
        x.begin();
        x.run(4);
        due.is("told ahead of clear", x.of(0, 3), 8);
        due.is("clear", x.clear(), 2);
        due.is("no programs", x.count(0), 0);
        due.is("nothing runs", x.count(6), 0);
        due.is("stop", x.stop(), false);
        due.is("run", x.run(1), -9);
        due.is("of", x.of(0, 0), -2);
        due.is("share", x.share(0), -1);
        due.is("time", x.time(0, 8), -2);
        due.is("begin", x.begin(), false);
        due.is("of behind a vain begin", x.of(0, 0), -2);
        due.is("NOW of what ran latest stays", x.count(7), 4);
        due.is("the pool stays", x.count(8), 24);
        due.same("the log stays", Due.logOf(x), "1 1 6 4; 3 0 4 0");
        due.is("the terms stay", x.count(1), 4);
        due.is("the slots stay", x.count(11), 1);
        due.is("programs begin anew", Due.program(x, Due.COPY, 1, 0, 2), 0);
        due.is("a new one has not run", x.of(0, 0), -2);
        due.is("and has no share", x.share(0), -1);
        due.is("its time is its own", x.time(0, 4), 1);
        due.is("its need is its own", x.need(0), 4);
        due.is("clear again", x.clear(), 1);
        due.is("clear at last", x.clear(), 0);
    }
}
