/** Promises 2 to 5, row, tear, write, paste, in ordinary use. */
public final class SlotsTest {
    private static final Due due = new Due();

    public static void main(String[] args) {
        rows();
        tears();
        writes();
        pastes();
        due.end();
    }

    private static void rows() {
        RoomDealer x = new RoomDealer();
        for (int slot = 0; slot < 4; slot++) {
            due.is("row of any slot and width", x.row(slot, slot, 60), 0);
            due.is("its last number", x.write(slot, 59, 1), 0);
            due.is("beyond its last number", x.write(slot, 60, 1), -6);
            due.is("rows there", x.count(11), slot + 1);
        }
        due.is("row in place of another", x.row(0, 2, 3), 0);
        due.is("it is shorter now", x.write(0, 3, 1), -6);
        due.is("a row's numbers are 0", x.program(0, 0, 1, 0), 0);
        due.is("so it takes no room", x.time(0, 0), 3);
        due.is("a row of none", x.row(1, 0, 0), 0);
        due.is("is a row", x.count(11), 4);
        due.is("without numbers", x.write(1, 0, 0), -6);
        due.is("and can be torn", x.tear(1), true);

        x.row(2, 2, 2);
        x.write(2, 0, 5);
        due.is("the same row anew", x.row(2, 2, 2), 0);
        x.program(2, 1, 1, 0);
        due.is("has no 5 any more", x.time(1, 0), 2);
    }

    private static void tears() {
        RoomDealer x = new RoomDealer();
        x.row(3, 1, 4);
        due.is("tear", x.tear(3), true);
        due.is("tear again", x.tear(3), false);
        due.is("torn: rows there", x.count(11), 0);
        due.is("torn: write", x.write(3, 0, 0), -5);
        due.is("torn: program", x.program(3, 0, 1, 0), -5);
    }

    private static void writes() {
        RoomDealer x = new RoomDealer();
        x.row(0, 3, 2);
        due.is("write i 1", x.write(0, 1, 7), 0);
        x.program(0, 1, 1, 0);
        due.is("7 was written", x.time(0, 6), -1);
        due.is("7 and nothing else", x.time(0, 7), 2);
        due.is("write behind a program", x.write(0, 1, 3), 0);
        due.is("leaves the program as it was", x.time(0, 6), -1);
        due.is("tear behind a program", x.tear(0), true);
        due.is("leaves the program as it was", x.time(0, 7), 2);
    }

    private static void pastes() {
        RoomDealer x = new RoomDealer();
        Due.fill(x, 0, 1, 2, 3, 4, 5);
        Due.fill(x, 1, 11, 12, 13);
        due.is("paste to another", x.paste(0, 1, 1, 0, 2), 0);
        due.same("is put", Due.numbers(x, 1, 3), "2 3 13");
        due.same("the first stays", Due.numbers(x, 0, 5), "1 2 3 4 5");
        due.is("paste up in its own", x.paste(0, 0, 0, 1, 4), 0);
        due.same("as they were", Due.numbers(x, 0, 5), "1 1 2 3 4");
        due.is("paste down in its own", x.paste(0, 2, 0, 0, 3), 0);
        due.same("as they were", Due.numbers(x, 0, 5), "2 3 4 3 4");
        due.is("paste a whole row", x.paste(1, 0, 0, 2, 3), 0);
        due.same("to the end", Due.numbers(x, 0, 5), "2 3 2 3 13");
        due.is("paste none", x.paste(0, 5, 1, 3, 0), 0);
        due.same("changes none", Due.numbers(x, 1, 3), "2 3 13");
    }
}
