/** Promises 1 to 5: a new object, row, tear, write, paste. */
public final class SlotsTest {
    private static final Due due = new Due();

    public static void main(String[] args) {
        newObject();
        rows();
        tears();
        writes();
        cutsToWidth();
        pastes();
        pasteRefusals();
        due.end();
    }

    private static void newObject() {
        RoomDealer x = new RoomDealer();
        int[] want = {0, 8, 256, 0, 50, 2, 0, 0, 0, 0, 0, 0, -1};
        for (int what = 0; what < want.length; what++) {
            due.is("new: count(" + what + ")", x.count(what), want[what]);
        }
        due.is("new: count(-1)", x.count(-1), -1);
        for (int slot = 0; slot < 4; slot++) {
            due.is("new: write", x.write(slot, 0, 1), -5);
            due.is("new: tear", x.tear(slot), false);
        }
        due.is("new: stop", x.stop(), false);
        due.is("new: log", x.log(0, 0), -2);
        due.is("new: of", x.of(0, 0), -2);
        due.is("new: share", x.share(0), -1);
        due.is("new: clear", x.clear(), 0);
        due.is("NONE", RoomDealer.NONE, -1);
    }

    private static void rows() {
        RoomDealer x = new RoomDealer();
        for (int slot = 0; slot < 4; slot++) {
            due.is("row of any slot and width", x.row(slot, slot, 60), 0);
            due.is("its last number", x.write(slot, 59, 1), 0);
            due.is("beyond its last number", x.write(slot, 60, 1), -6);
            due.is("rows there", x.count(11), slot + 1);
        }
        due.is("row slot 4", x.row(4, 0, 1), -2);
        due.is("row slot -1", x.row(-1, 0, 1), -2);
        due.is("row width 4", x.row(0, 4, 1), -2);
        due.is("row width -1", x.row(0, -1, 1), -2);
        due.is("row n 61", x.row(0, 0, 61), -2);
        due.is("row n greatest", x.row(0, 0, Integer.MAX_VALUE), -2);
        due.is("row n -1", x.row(0, 3, -1), -3);
        due.is("row n least", x.row(0, 3, Integer.MIN_VALUE), -3);
        due.is("row of no slot and n below 0", x.row(4, 0, -1), -2);
        due.is("row of no width and n below 0", x.row(0, 4, -1), -2);
        due.is("refused rows change nothing", x.paste(0, 0, 1, 0, 1), -7);
        due.is("the slot stayed as long as it was", x.write(0, 59, 1), 0);

        due.is("row in place of another", x.row(0, 2, 3), 0);
        due.is("it is shorter now", x.write(0, 3, 1), -6);
        due.is("a row's numbers are 0", x.program(0, 0, 1, 0), 0);
        due.is("so it takes no room", x.time(0, 0), 3);
        due.is("a row of none", x.row(1, 0, 0), 0);
        due.is("is a row", x.count(11), 4);
        due.is("without numbers", x.write(1, 0, 0), -6);
        due.is("and can be torn", x.tear(1), true);

        x.row(2, 2, 2);
        x.write(2, 0, 5);
        due.is("the same row anew", x.row(2, 2, 2), 0);
        x.program(2, 1, 1, 0);
        due.is("has no 5 any more", x.time(1, 0), 2);
    }

    private static void tears() {
        RoomDealer x = new RoomDealer();
        x.row(3, 1, 4);
        due.is("tear", x.tear(3), true);
        due.is("tear again", x.tear(3), false);
        due.is("torn: rows there", x.count(11), 0);
        due.is("torn: write", x.write(3, 0, 0), -5);
        due.is("torn: program", x.program(3, 0, 1, 0), -5);
        due.is("tear slot 4", x.tear(4), false);
        due.is("tear slot -1", x.tear(-1), false);
        due.is("tear slot least", x.tear(Integer.MIN_VALUE), false);
    }

    private static void writes() {
        RoomDealer x = new RoomDealer();
        due.is("write slot 4", x.write(4, 0, 0), -2);
        due.is("write slot -1", x.write(-1, 0, 0), -2);
        due.is("write to nothing, no such number", x.write(0, -1, 0), -5);
        x.row(0, 3, 2);
        due.is("write i -1", x.write(0, -1, 0), -6);
        due.is("write i 2", x.write(0, 2, 0), -6);
        due.is("write i greatest", x.write(0, Integer.MAX_VALUE, 0), -6);
        due.is("write i 1", x.write(0, 1, 7), 0);
        x.program(0, 1, 1, 0);
        due.is("7 was written", x.time(0, 6), -1);
        due.is("7 and nothing else", x.time(0, 7), 2);
        due.is("write behind a program", x.write(0, 1, 3), 0);
        due.is("leaves the program as it was", x.time(0, 6), -1);
        due.is("tear behind a program", x.tear(0), true);
        due.is("leaves the program as it was", x.time(0, 7), 2);
    }

    /** What a width leaves of a number shows in whether it is an act, and in which room it needs. */
    private static void cutsToWidth() {
        long[] wraps = {256L, 65536L, 4294967296L};
        for (int width = 0; width < 3; width++) {
            RoomDealer x = new RoomDealer();
            x.row(0, width, 1);
            x.write(0, 0, wraps[width] + 5);
            due.is("5 is left in width " + width, x.program(0, 1, 1, 0), 0);
            due.is("room for 5", x.time(0, 5), 1);
            due.is("no room for 5", x.time(0, 4), -1);
            x.write(0, 0, wraps[width] - 5);
            due.is("-5 is left in width " + width, x.program(0, 1, 1, 0), 1);
            due.is("no room for a death", x.time(1, 0), 1);
            x.write(0, 0, wraps[width] / 2);
            due.is("the least number of width " + width, x.program(0, 1, 1, 0), -4);
            x.row(0, width + 1, 1);
            x.write(0, 0, wraps[width] + 5);
            due.is("not cut in width " + (width + 1), x.program(0, 1, 1, 0), -4);
        }
        RoomDealer x = new RoomDealer();
        x.row(0, 0, 1);
        x.write(0, 0, 1005);
        due.is("1005 in one byte is -19", x.program(0, 1, 1, 0), 0);
        due.is("a death, no sleep", x.time(0, 0), 1);
        x.row(0, 3, 1);
        x.write(0, 0, Long.MIN_VALUE);
        due.is("8 bytes are not cut", x.program(0, 1, 1, 0), -4);
    }

    private static String acts(RoomDealer x, int slot, int n) {
        StringBuilder found = new StringBuilder();
        for (int i = 0; i < n; i++) {
            x.row(3, 2, 1);
            x.paste(slot, i, 3, 0, 1);
            x.clear();
            x.program(3, 1, 1, 0);
            x.terms(1, 64, 0, 1, 1);
            found.append(i == 0 ? "" : " ").append(x.need(0));
        }
        return found.toString();
    }

    private static void fill(RoomDealer x, int slot, int... numbers) {
        x.row(slot, 2, numbers.length);
        for (int i = 0; i < numbers.length; i++) {
            x.write(slot, i, numbers[i]);
        }
    }

    private static void pastes() {
        RoomDealer x = new RoomDealer();
        fill(x, 0, 1, 2, 3, 4, 5);
        fill(x, 1, 11, 12, 13);
        due.is("paste to another", x.paste(0, 1, 1, 0, 2), 0);
        due.same("is put", acts(x, 1, 3), "2 3 13");
        due.same("the first stays", acts(x, 0, 5), "1 2 3 4 5");
        due.is("paste up in its own", x.paste(0, 0, 0, 1, 4), 0);
        due.same("as they were", acts(x, 0, 5), "1 1 2 3 4");
        due.is("paste down in its own", x.paste(0, 2, 0, 0, 3), 0);
        due.same("as they were", acts(x, 0, 5), "2 3 4 3 4");
        due.is("paste a whole row", x.paste(1, 0, 0, 2, 3), 0);
        due.same("to the end", acts(x, 0, 5), "2 3 2 3 13");
        due.is("paste none", x.paste(0, 5, 1, 3, 0), 0);
        due.same("changes none", acts(x, 1, 3), "2 3 13");
    }

    private static void pasteRefusals() {
        RoomDealer x = new RoomDealer();
        fill(x, 0, 1, 2, 3, 4, 5);
        fill(x, 1, 11, 12, 13);
        due.is("paste from slot 4", x.paste(4, 0, 0, 0, 1), -2);
        due.is("paste to slot 4", x.paste(0, 0, 4, 0, 1), -2);
        due.is("paste from slot -1", x.paste(-1, 0, 2, 0, 1), -2);
        due.is("paste from nothing", x.paste(2, 0, 0, 0, 1), -5);
        due.is("paste to nothing", x.paste(0, 0, 2, 0, -1), -5);
        x.row(2, 1, 5);
        due.is("paste to another width", x.paste(0, 0, 2, 0, 1), -7);
        due.is("paste beyond to another width", x.paste(0, 9, 2, 0, 1), -7);
        due.is("paste from beyond", x.paste(0, 3, 1, 0, 3), -6);
        due.is("paste to beyond", x.paste(0, 0, 1, 1, 3), -6);
        due.is("paste i -1", x.paste(0, -1, 1, 0, 2), -6);
        due.is("paste k -1", x.paste(0, 0, 1, -1, 2), -6);
        due.is("paste n -1", x.paste(0, 1, 1, 1, -1), -6);
        due.is("paste none from beyond", x.paste(0, 6, 1, 0, 0), -6);
        due.is("paste i greatest", x.paste(0, Integer.MAX_VALUE, 1, 0, 1), -6);
        due.is("paste k greatest", x.paste(0, 0, 1, Integer.MAX_VALUE, 1), -6);
        due.is("paste n greatest", x.paste(0, 1, 1, 1, Integer.MAX_VALUE), -6);
        due.same("nothing happens", acts(x, 1, 3), "11 12 13");
        due.same("nothing happens", acts(x, 0, 5), "1 2 3 4 5");
    }
}
