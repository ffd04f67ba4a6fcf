/** Promises 18 to 20: of, count, log. */
public final class TellsTest {
    private static final Due due = new Due();

    public static void main(String[] args) {
        ofTellsAll();
        ofRefuses();
        counts();
        logKeepsSixty();
        logRefuses();
        due.end();
    }

    private static void ofTellsAll() {
        RoomDealer x = new RoomDealer();
        x.terms(2, 12, 0, 20, 0);
        Due.program(x, Due.MARK, 2, 0, 6, 1003, -1, 6);
        x.begin();
        String[] want = {
            "0 12 0 0 0 0 0 0 0 -1 0 0 0",
            "0 12 6 6 0 1 1 0 0 -1 0 0 0",
            "2 12 6 6 0 1 1 0 0 -1 0 0 2",
            "2 12 6 6 0 1 1 0 0 -1 0 0 1",
            "0 12 6 6 0 2 1 0 0 -1 0 0 0",
            "0 12 6 0 0 3 1 0 0 -1 0 0 0",
            "0 12 12 6 1 0 2 0 0 -1 0 0 0",
            "1 12 6 6 1 0 2 13 13 -1 0 0 12",
        };
        for (int now = 0; now < want.length; now++) {
            due.is("NOW", x.count(7), now);
            due.same("at " + now, Due.allOf(x, 0), want[now]);
            x.run(1);
        }
        x.run(10);
        due.same("BUSY to the last", Due.allOf(x, 0), "1 12 6 6 1 0 2 13 13 -1 0 0 1");
        x.run(1);
        due.same("READY at 19", Due.allOf(x, 0), "0 12 6 6 1 0 2 13 13 -1 0 0 0");
        x.run(1);
        due.same("redeal at 20: C is 0", Due.allOf(x, 0), "0 12 12 12 1 1 3 13 0 -1 0 0 0");
    }

    private static void ofRefuses() {
        RoomDealer x = new RoomDealer();
        due.is("nothing ran", x.of(0, 0), -2);
        Due.program(x, Due.MARK, 1, 0, 6);
        due.is("nothing ran", x.of(0, 0), -2);
        x.begin();
        due.is("program -1", x.of(-1, 0), -2);
        due.is("program 1", x.of(1, 0), -2);
        due.is("program greatest", x.of(Integer.MAX_VALUE, 0), -2);
        due.is("what -1", x.of(0, -1), -2);
        due.is("what 13", x.of(0, 13), -2);
        due.is("what least", x.of(0, Integer.MIN_VALUE), -2);
    }

    private static void counts() {
        RoomDealer x = new RoomDealer();
        x.terms(4, 32, 8, 3, 7);
        Due.program(x, Due.MARK, 2, 0, 8, -1, 1004);
        Due.program(x, Due.MARK, 1, 0, 0);
        x.row(2, 0, 1);
        int[] ahead = {2, 4, 32, 8, 3, 7, 0, 0, 0, 0, 0, 2};
        int[] begun = {2, 4, 32, 8, 3, 7, 1, 0, 24, 0, 0, 2};
        int[] late = {2, 4, 32, 8, 3, 7, 1, 5, 32, 3, 3, 2};
        sameCounts(x, ahead);
        x.begin();
        sameCounts(x, begun);
        x.run(5);
        due.same("log", Due.logOf(x), "1 1 6 0; 3 0 0 5; 3 0 4 8");
        sameCounts(x, late);
        x.stop();
        late[6] = 0;
        sameCounts(x, late);
        due.is("count 12", x.count(12), -1);
        due.is("count -1", x.count(-1), -1);
        due.is("count greatest", x.count(Integer.MAX_VALUE), -1);
    }

    private static void sameCounts(RoomDealer x, int[] want) {
        for (int what = 0; what < want.length; what++) {
            due.is("count(" + what + ")", x.count(what), want[what]);
        }
    }

    /** COPY with room for one: it collects, for 1, in each round but the first. */
    private static void logKeepsSixty() {
        RoomDealer x = new RoomDealer();
        x.terms(2, 4, 2, 1000, 0);
        Due.program(x, Due.COPY, 40, 0, 1, -1, 1, -1);
        x.begin();
        due.is("share", x.share(0), 2);
        x.run(3 * 59 + 2);
        due.is("59 came", x.count(10), 59);
        due.is("59 are kept", x.count(9), 59);
        due.is("the first is there", x.log(0, 0), 3);
        x.run(3);
        due.is("60 are kept", x.count(9), 60);
        due.is("the first is there", x.log(0, 0), 3);
        due.is("the last", x.log(59, 0), 180);
        x.run(3);
        due.is("61 came", x.count(10), 61);
        due.is("60 are kept", x.count(9), 60);
        due.is("the first has gone", x.log(0, 0), 6);
        due.is("the last", x.log(59, 0), 183);
        due.is("beyond", x.log(60, 0), -2);
        due.is("all", x.run(2000), 160 + 79);
        due.is("80 came", x.count(10), 80);
        for (int i = 0; i < 59; i++) {
            due.is("NOW", x.log(i, 0), 3 * (i + 21));
            due.is("the program", x.log(i, 1), 0);
            due.is("what", x.log(i, 2), 0);
            due.is("how much", x.log(i, 3), 1);
        }
        due.is("the end: NOW", x.log(59, 0), 239);
        due.is("the end: what", x.log(59, 2), 6);
        due.is("the end: how much", x.log(59, 3), 2);
    }

    private static void logRefuses() {
        RoomDealer x = new RoomDealer();
        due.is("no entry", x.log(0, 0), -2);
        x.terms(2, 4, 2, 1000, 0);
        Due.program(x, Due.COPY, 1, 0, 1);
        x.begin();
        x.run(1);
        due.is("an entry", x.log(0, 2), 6);
        due.is("i -1", x.log(-1, 0), -2);
        due.is("i 1", x.log(1, 0), -2);
        due.is("i least", x.log(Integer.MIN_VALUE, 0), -2);
        due.is("i greatest", x.log(Integer.MAX_VALUE, 0), -2);
        due.is("what -1", x.log(0, -1), -2);
        due.is("what 4", x.log(0, 4), -2);
    }
}
