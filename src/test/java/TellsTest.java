/** Promises 18 to 20, of, count, log, in ordinary use. */
public final class TellsTest {
    private static final Due due = new Due();

    public static void main(String[] args) {
        ofTellsAll();
        counts();
        due.end();
    }

    private static void ofTellsAll() {
        RoomDealer x = new RoomDealer();
        x.terms(2, 12, 0, 20, 0);
        Due.program(x, Due.MARK, 2, 0, 6, 1003, -1, 6);
        x.begin();
        String[] want = {
            "0 12 0 0 0 0 0 0 0 -1 0 0 0",
            "0 12 6 6 0 1 1 0 0 -1 0 0 0",
            "2 12 6 6 0 1 1 0 0 -1 0 0 2",
            "2 12 6 6 0 1 1 0 0 -1 0 0 1",
            "0 12 6 6 0 2 1 0 0 -1 0 0 0",
            "0 12 6 0 0 3 1 0 0 -1 0 0 0",
            "0 12 12 6 1 0 2 0 0 -1 0 0 0",
            "1 12 6 6 1 0 2 13 13 -1 0 0 12",
        };
        for (int now = 0; now < want.length; now++) {
            due.is("NOW", x.count(7), now);
            due.same("at " + now, Due.allOf(x, 0), want[now]);
            x.run(1);
        }
        x.run(10);
        due.same("BUSY to the last", Due.allOf(x, 0), "1 12 6 6 1 0 2 13 13 -1 0 0 1");
        x.run(1);
        due.same("READY at 19", Due.allOf(x, 0), "0 12 6 6 1 0 2 13 13 -1 0 0 0");
        x.run(1);
        due.same("redeal at 20: C is 0", Due.allOf(x, 0), "0 12 12 12 1 1 3 13 0 -1 0 0 0");
    }

    private static void counts() {
        RoomDealer x = new RoomDealer();
        x.terms(4, 32, 8, 3, 7);
        Due.program(x, Due.MARK, 2, 0, 8, -1, 1004);
        Due.program(x, Due.MARK, 1, 0, 0);
        x.row(2, 0, 1);
        int[] ahead = {2, 4, 32, 8, 3, 7, 0, 0, 0, 0, 0, 2};
        int[] begun = {2, 4, 32, 8, 3, 7, 1, 0, 24, 0, 0, 2};
        int[] late = {2, 4, 32, 8, 3, 7, 1, 5, 32, 3, 3, 2};
        sameCounts(x, ahead);
        x.begin();
        sameCounts(x, begun);
        x.run(5);
        due.same("log", Due.logOf(x), "1 1 6 0; 3 0 0 5; 3 0 4 8");
        sameCounts(x, late);
        x.stop();
        late[6] = 0;
        sameCounts(x, late);
    }

    private static void sameCounts(RoomDealer x, int[] want) {
        for (int what = 0; what < want.length; what++) {
            due.is("count(" + what + ")", x.count(what), want[what]);
        }
    }
}
