/** The boundary cases of promises 1 to 5 and of Terms I about SLOTS, a test for each sentence. */
public final class EdgesOfSlotsTest {
    private static final Due due = new Due();
    private static final int LEAST = Integer.MIN_VALUE;
    private static final int GREATEST = Integer.MAX_VALUE;
    private static final int[] NO_SLOTS = {-1, 4, LEAST, GREATEST};

    public static void main(String[] args) {
        newSlotsHaveNothing();
        newHasNoPrograms();
        newTerms();
        newRunsNothing();
        slotsZeroToThree();
        widthsZeroToThree();
        sixtyNumbersAtMost();
        rowIsAllZero();
        rowInPlaceOfAnother();
        rowOfNoNumbers();
        rowOfNoSlot();
        rowOfNoWidth();
        rowTooLong();
        rowBelowZero();
        rowOrder();
        tearIsTrue();
        tearOfNothing();
        tearOfNoSlot();
        writeFirstAndLast();
        writeIsCut();
        writeToNoSlot();
        writeToNothing();
        writeNoSuchNumber();
        writeRefusedChangesNothing();
        pasteToAnother();
        pasteToItsOwn();
        pasteUpToTheEnd();
        pasteNone();
        pasteOfNoSlot();
        pasteOfNothing();
        pasteOfAnotherWidth();
        pasteBeyond();
        pasteBelowZero();
        pasteSumsDoNotWrapAround();
        pasteOrder();
        due.end();
    }

    private static void newSlotsHaveNothing() {
        due.sentence("1: SLOTS have nothing");
        RoomDealer x = new RoomDealer();
        due.is("count(11)", x.count(11), 0);
        for (int slot = 0; slot < 4; slot++) {
            due.is("tear(" + slot + ")", x.tear(slot), false);
            due.is("write(" + slot + ", 0, 0)", x.write(slot, 0, 0), -5);
            due.is("program(" + slot + ", 0, 1, 0)", x.program(slot, 0, 1, 0), -5);
        }
    }

    private static void newHasNoPrograms() {
        due.sentence("1: no PROGRAMS");
        RoomDealer x = new RoomDealer();
        due.is("count(0)", x.count(0), 0);
        due.is("time(0, 0)", x.time(0, 0), -2);
        due.is("need(0)", x.need(0), -2);
        due.is("falls(0)", x.falls(0), -2);
        due.is("clear()", x.clear(), 0);
        Due.fill(x, 0, 1);
        due.is("the first one's number", x.program(0, 0, 1, 0), 0);
    }

    private static void newTerms() {
        due.sentence("1: STEP 8, ALL 256, RESERVE 0, EACH 50, SWING 2");
        RoomDealer x = new RoomDealer();
        int[] want = {8, 256, 0, 50, 2};
        for (int i = 0; i < want.length; i++) {
            due.is("count(" + (i + 1) + ")", x.count(i + 1), want[i]);
        }
        Due.fill(x, 0, 1);
        x.program(0, Due.MARK, 1, 0);
        due.is("NEED by STEP 8", x.need(0), 8);
        x.program(0, Due.MARK, 1, 256);
        due.is("NEED up to ALL 256", x.need(1), 256);
        x.program(0, Due.MARK, 1, 257);
        due.is("NEED above ALL 256", x.need(2), -1);
    }

    private static void newRunsNothing() {
        due.sentence("1: nothing RUNS");
        RoomDealer x = new RoomDealer();
        due.is("run(1)", x.run(1), -9);
        due.is("stop()", x.stop(), false);
        due.is("of(0, 0)", x.of(0, 0), -2);
        for (int what = 6; what <= 10; what++) {
            due.is("count(" + what + ")", x.count(what), 0);
        }
        due.is("log(0, 0)", x.log(0, 0), -2);
        due.is("terms, not -9", x.terms(8, 8, 0, 1, 0), 0);
    }

    private static void slotsZeroToThree() {
        due.sentence("I: SLOTS 0 .. 3");
        RoomDealer x = new RoomDealer();
        for (int slot = 0; slot < 4; slot++) {
            due.is("row(" + slot + ", 2, 1)", x.row(slot, 2, 1), 0);
            due.is("write(" + slot + ", 0, 1)", x.write(slot, 0, 1), 0);
            due.is("paste(" + slot + ", 0, " + slot + ", 0, 1)", x.paste(slot, 0, slot, 0, 1), 0);
            due.is("program(" + slot + ", 0, 1, 0)", x.program(slot, 0, 1, 0), slot);
        }
        due.is("count(11)", x.count(11), 4);
        for (int slot = 0; slot < 4; slot++) {
            due.is("tear(" + slot + ")", x.tear(slot), true);
            due.is("count(11)", x.count(11), 3 - slot);
        }
    }

    private static void widthsZeroToThree() {
        due.sentence("I: numbers of 1, 2, 4 or 8 bytes (WIDTH 0 .. 3)");
        for (int width = 0; width < 4; width++) {
            RoomDealer x = new RoomDealer();
            due.is("row(0, " + width + ", 1)", x.row(0, width, 1), 0);
            x.row(1, 3 - width, 1);
            due.is("of another width", x.paste(0, 0, 1, 0, 1), -7);
            x.row(1, width, 1);
            due.is("of one width", x.paste(0, 0, 1, 0, 1), 0);
        }
    }

    private static void sixtyNumbersAtMost() {
        due.sentence("I: at most 60");
        for (int width = 0; width < 4; width++) {
            RoomDealer x = new RoomDealer();
            due.is("row of 60", x.row(0, width, 60), 0);
            due.is("number 59", x.write(0, 59, 1), 0);
            due.is("number 60", x.write(0, 60, 1), -6);
        }
    }

    private static void rowIsAllZero() {
        due.sentence("2: n numbers, all 0");
        RoomDealer x = new RoomDealer();
        x.row(0, 2, 60);
        x.program(0, Due.MARK, 1, 0);
        due.is("60 acts that take no room", x.time(0, 0), 60);
    }

    private static void rowInPlaceOfAnother() {
        due.sentence("2: in place of another one");
        RoomDealer x = new RoomDealer();
        Due.fill(x, 0, 5, 6, 7);
        due.is("row", x.row(0, 2, 3), 0);
        x.program(0, Due.MARK, 1, 0);
        due.is("all 0 again", x.time(0, 0), 3);
        x.row(0, 2, 2);
        due.is("a shorter one has no number 2", x.write(0, 2, 1), -6);
        x.row(0, 2, 3);
        due.is("a longer one has", x.write(0, 2, 1), 0);
        x.row(0, 0, 3);
        due.is("one byte: 300 is 44", x.write(0, 0, 300), 0);
        due.is("44 is a MAKE", x.program(0, Due.MARK, 1, 0), 1);
        due.is("of 44", x.time(1, 43), -1);
        due.is("there is one row", x.count(11), 1);
    }

    private static void rowOfNoNumbers() {
        due.sentence("2: a row of n numbers (n is 0)");
        RoomDealer x = new RoomDealer();
        due.is("row(1, 0, 0)", x.row(1, 0, 0), 0);
        due.is("it is a row", x.count(11), 1);
        due.is("it has no number", x.write(1, 0, 1), -6);
        x.row(1, 2, 5);
        due.is("in place of another", x.row(1, 2, 0), 0);
        due.is("which is gone", x.write(1, 0, 1), -6);
        due.is("it can be torn", x.tear(1), true);
    }

    private static void rowOfNoSlot() {
        due.sentence("2: -2: there is no such SLOT");
        RoomDealer x = new RoomDealer();
        for (int slot : NO_SLOTS) {
            due.is("row(" + slot + ", 0, 1)", x.row(slot, 0, 1), -2);
        }
        due.is("no row came", x.count(11), 0);
    }

    private static void rowOfNoWidth() {
        due.sentence("2: -2: there is no such WIDTH");
        RoomDealer x = new RoomDealer();
        Due.fill(x, 0, 5, 6);
        for (int width : new int[] {-1, 4, LEAST, GREATEST}) {
            due.is("row(0, " + width + ", 1)", x.row(0, width, 1), -2);
        }
        due.same("the row is as it was", Due.numbers(x, 0, 2), "5 6");
    }

    private static void rowTooLong() {
        due.sentence("2: -2: n is above 60");
        RoomDealer x = new RoomDealer();
        Due.fill(x, 0, 5, 6);
        for (int n : new int[] {61, 62, 256, GREATEST}) {
            due.is("row(0, 0, " + n + ")", x.row(0, 0, n), -2);
        }
        due.same("the row is as it was", Due.numbers(x, 0, 2), "5 6");
    }

    private static void rowBelowZero() {
        due.sentence("2: -3, and the SLOT stays: n is below 0");
        RoomDealer x = new RoomDealer();
        due.is("row(1, 0, -1)", x.row(1, 0, -1), -3);
        due.is("a SLOT that had nothing has nothing", x.tear(1), false);
        Due.fill(x, 0, 5, 6);
        due.is("row(0, 0, -1)", x.row(0, 0, -1), -3);
        due.is("row(0, 0, least)", x.row(0, 0, LEAST), -3);
        due.is("number 1", x.write(0, 1, 6), 0);
        due.is("number 2", x.write(0, 2, 6), -6);
        due.same("the row is as it was", Due.numbers(x, 0, 2), "5 6");
    }

    private static void rowOrder() {
        due.sentence("2: -2 stands ahead of -3");
        RoomDealer x = new RoomDealer();
        due.is("no SLOT, n below 0", x.row(4, 0, -1), -2);
        due.is("no WIDTH, n below 0", x.row(0, 4, -1), -2);
    }

    private static void tearIsTrue() {
        due.sentence("3: the SLOT has nothing: true");
        RoomDealer x = new RoomDealer();
        for (int slot = 0; slot < 4; slot++) {
            x.row(slot, 2, 1);
        }
        due.is("tear(2)", x.tear(2), true);
        due.is("it has nothing", x.write(2, 0, 0), -5);
        due.is("the others have", x.count(11), 3);
        due.is("a row again", x.row(2, 2, 1), 0);
        due.is("and torn again", x.tear(2), true);
    }

    private static void tearOfNothing() {
        due.sentence("3: false, if it had nothing");
        RoomDealer x = new RoomDealer();
        due.is("ahead of any row", x.tear(0), false);
        x.row(0, 2, 1);
        x.tear(0);
        due.is("torn twice", x.tear(0), false);
    }

    private static void tearOfNoSlot() {
        due.sentence("3: false, if there is none such");
        RoomDealer x = new RoomDealer();
        for (int slot = 0; slot < 4; slot++) {
            x.row(slot, 2, 1);
        }
        for (int slot : NO_SLOTS) {
            due.is("tear(" + slot + ")", x.tear(slot), false);
        }
        due.is("all rows are there", x.count(11), 4);
    }

    private static void writeFirstAndLast() {
        due.sentence("4: number i of the SLOT's row is v");
        RoomDealer x = new RoomDealer();
        x.row(0, 2, 3);
        due.is("the first", x.write(0, 0, 11), 0);
        due.is("the last", x.write(0, 2, 13), 0);
        due.is("the one between", x.write(0, 1, 12), 0);
        due.is("the first again", x.write(0, 0, 21), 0);
        due.same("the row", Due.numbers(x, 0, 3), "21 12 13");
    }

    /** What is left shows in which ACT it is: a MAKE of 5, a death, or none. */
    private static void writeIsCut() {
        long[] wraps = {1L << 8, 1L << 16, 1L << 32};
        for (int width = 0; width < 3; width++) {
            due.sentence("4: cut to its WIDTH (" + width + ")");
            long wrap = wraps[width];
            due.is("wrap + 5 is 5", actOf(width, wrap + 5), 5);
            due.is("5 - wrap is 5", actOf(width, 5 - wrap), 5);
            due.is("a greater wrap", actOf(width, 3 * wrap + 5), 5);
            due.is("wrap is 0", actOf(width, wrap), 0);
            due.is("wrap - 1 is -1, a death", actOf(width, wrap - 1), 0);
            due.is("the greatest number, -1 in fewer bytes, is no ACT", actOf(width, wrap / 2 - 1), -4);
            due.is("one more is the least number, no ACT", actOf(width, wrap / 2), -4);
            due.is("the next WIDTH keeps it", actOf(width + 1, wrap + 5), -4);
        }
        due.sentence("4: cut to its WIDTH (3): not cut");
        due.is("the least number", actOf(3, Long.MIN_VALUE), -4);
        due.is("the greatest number", actOf(3, Long.MAX_VALUE), -4);
        due.is("-1", actOf(3, -1L), 0);
        due.is("5 and a bit above 4 bytes", actOf(3, (1L << 62) + 5), -4);
        due.is("5", actOf(3, 5L), 5);
    }

    /** The cells that it makes (0 for none), or -4 if it is no ACT. */
    private static int actOf(int width, long v) {
        RoomDealer x = Due.with(1, 64, 0, 1, 1);
        x.row(0, width, 1);
        x.write(0, 0, v);
        int program = x.program(0, Due.MARK, 1, 0);
        return program < 0 ? program : x.need(program);
    }

    private static void writeToNoSlot() {
        due.sentence("4: -2: there is no such SLOT");
        RoomDealer x = new RoomDealer();
        for (int slot : NO_SLOTS) {
            due.is("write(" + slot + ", 0, 1)", x.write(slot, 0, 1), -2);
            due.is("no such number either", x.write(slot, -1, 1), -2);
        }
    }

    private static void writeToNothing() {
        due.sentence("4: -5: it has nothing");
        RoomDealer x = new RoomDealer();
        due.is("ahead of any row", x.write(0, 0, 1), -5);
        due.is("no such number either", x.write(0, 60, 1), -5);
        x.row(0, 2, 1);
        x.tear(0);
        due.is("torn", x.write(0, 0, 1), -5);
    }

    private static void writeNoSuchNumber() {
        due.sentence("4: -6: there is no such number");
        RoomDealer x = new RoomDealer();
        x.row(0, 2, 2);
        for (int i : new int[] {-1, 2, 59, 60, LEAST, GREATEST}) {
            due.is("write(0, " + i + ", 1)", x.write(0, i, 1), -6);
        }
        x.row(1, 2, 0);
        due.is("a row of none", x.write(1, 0, 1), -6);
    }

    private static void writeRefusedChangesNothing() {
        due.sentence("4: what was refused is written nowhere");
        RoomDealer x = new RoomDealer();
        Due.fill(x, 0, 5, 6);
        x.write(0, -1, 9);
        x.write(0, 2, 9);
        due.same("the row", Due.numbers(x, 0, 2), "5 6");
        x.row(0, 2, 3);
        x.program(0, Due.MARK, 1, 0);
        due.is("a longer one has no 9", x.time(x.count(0) - 1, 0), 3);
    }

    private static void pasteToAnother() {
        due.sentence("5: put to another one's, from place k on");
        RoomDealer x = new RoomDealer();
        Due.fill(x, 0, 1, 2, 3, 4);
        Due.fill(x, 1, 11, 12, 13);
        due.is("the first one to the last place", x.paste(0, 0, 1, 2, 1), 0);
        due.same("to", Due.numbers(x, 1, 3), "11 12 1");
        due.is("the last one to the first place", x.paste(0, 3, 1, 0, 1), 0);
        due.same("to", Due.numbers(x, 1, 3), "4 12 1");
        due.same("from", Due.numbers(x, 0, 4), "1 2 3 4");
    }

    private static void pasteToItsOwn() {
        due.sentence("5: (or its own), as they were");
        RoomDealer x = new RoomDealer();
        Due.fill(x, 0, 1, 2, 3, 4, 5);
        due.is("one place up", x.paste(0, 0, 0, 1, 4), 0);
        due.same("as they were", Due.numbers(x, 0, 5), "1 1 2 3 4");
        Due.fill(x, 0, 1, 2, 3, 4, 5);
        due.is("one place down", x.paste(0, 1, 0, 0, 4), 0);
        due.same("as they were", Due.numbers(x, 0, 5), "2 3 4 5 5");
        due.is("to the same place", x.paste(0, 0, 0, 0, 5), 0);
        due.same("as they were", Due.numbers(x, 0, 5), "2 3 4 5 5");
    }

    private static void pasteUpToTheEnd() {
        due.sentence("5: so many numbers (all of a row)");
        RoomDealer x = new RoomDealer();
        Due.fill(x, 0, 1, 2, 3);
        Due.fill(x, 1, 11, 12, 13, 14);
        due.is("a whole row to the end of another", x.paste(0, 0, 1, 1, 3), 0);
        due.same("to", Due.numbers(x, 1, 4), "11 1 2 3");
        x.row(0, 0, 60);
        x.row(1, 0, 60);
        due.is("60", x.paste(0, 0, 1, 0, 60), 0);
        due.is("61", x.paste(0, 0, 1, 0, 61), -6);
    }

    private static void pasteNone() {
        due.sentence("5: so many numbers (n is 0)");
        RoomDealer x = new RoomDealer();
        Due.fill(x, 0, 1, 2);
        Due.fill(x, 1, 11, 12);
        due.is("from the first place", x.paste(0, 0, 1, 0, 0), 0);
        due.is("from the end to the end", x.paste(0, 2, 1, 2, 0), 0);
        due.same("to", Due.numbers(x, 1, 2), "11 12");
        x.row(2, 2, 0);
        due.is("of a row of none", x.paste(2, 0, 2, 0, 0), 0);
        due.is("one of a row of none", x.paste(2, 0, 0, 0, 1), -6);
    }

    private static void pasteOfNoSlot() {
        due.sentence("5: -2: there is no such SLOT");
        RoomDealer x = new RoomDealer();
        Due.fill(x, 0, 1, 2);
        for (int slot : NO_SLOTS) {
            due.is("from " + slot, x.paste(slot, 0, 0, 0, 1), -2);
            due.is("to " + slot, x.paste(0, 0, slot, 0, 1), -2);
        }
    }

    private static void pasteOfNothing() {
        due.sentence("5: -5: one has nothing");
        RoomDealer x = new RoomDealer();
        Due.fill(x, 0, 1, 2);
        due.is("from nothing", x.paste(1, 0, 0, 0, 1), -5);
        due.is("to nothing", x.paste(0, 0, 1, 0, 1), -5);
        due.is("none to nothing", x.paste(0, 0, 1, 0, 0), -5);
        due.is("nothing to nothing", x.paste(1, 0, 1, 0, 1), -5);
        due.same("the row is as it was", Due.numbers(x, 0, 2), "1 2");
    }

    private static void pasteOfAnotherWidth() {
        due.sentence("5: -7: they are not of one WIDTH");
        RoomDealer x = new RoomDealer();
        Due.fill(x, 0, 1, 2);
        for (int width : new int[] {0, 1, 3}) {
            x.row(1, width, 2);
            due.is("from 4 bytes to WIDTH " + width, x.paste(0, 0, 1, 0, 1), -7);
            due.is("from WIDTH " + width + " to 4 bytes", x.paste(1, 0, 0, 0, 1), -7);
            due.is("none of them", x.paste(1, 0, 0, 0, 0), -7);
        }
        due.same("the row is as it was", Due.numbers(x, 0, 2), "1 2");
    }

    private static void pasteBeyond() {
        due.sentence("5: -6, and nothing happens: some are beyond their rows");
        RoomDealer x = new RoomDealer();
        Due.fill(x, 0, 1, 2, 3, 4);
        Due.fill(x, 1, 11, 12, 13);
        due.is("the last of them is beyond the first row", x.paste(0, 2, 1, 0, 3), -6);
        due.is("the last of them is beyond the second row", x.paste(0, 0, 1, 1, 3), -6);
        due.is("from the end", x.paste(0, 4, 1, 0, 1), -6);
        due.is("to the end", x.paste(0, 0, 1, 3, 1), -6);
        due.is("more than a row has", x.paste(0, 0, 1, 0, 4), -6);
        due.is("its own, one too far", x.paste(0, 0, 0, 1, 4), -6);
        due.is("none, from behind the end", x.paste(0, 5, 1, 0, 0), -6);
        due.is("none, to behind the end", x.paste(0, 0, 1, 4, 0), -6);
        due.same("from", Due.numbers(x, 0, 4), "1 2 3 4");
        due.same("to", Due.numbers(x, 1, 3), "11 12 13");
    }

    private static void pasteBelowZero() {
        due.sentence("5: -6, and nothing happens: a place or n is below 0");
        RoomDealer x = new RoomDealer();
        Due.fill(x, 0, 1, 2, 3, 4);
        Due.fill(x, 1, 11, 12, 13);
        for (int below : new int[] {-1, LEAST}) {
            due.is("i " + below, x.paste(0, below, 1, 0, 1), -6);
            due.is("i " + below + ", none", x.paste(0, below, 1, 0, 0), -6);
            due.is("k " + below, x.paste(0, 0, 1, below, 1), -6);
            due.is("k " + below + ", none", x.paste(0, 0, 1, below, 0), -6);
            due.is("n " + below, x.paste(0, 1, 1, 1, below), -6);
        }
        due.same("from", Due.numbers(x, 0, 4), "1 2 3 4");
        due.same("to", Due.numbers(x, 1, 3), "11 12 13");
    }

    private static void pasteSumsDoNotWrapAround() {
        due.sentence("5: -6: some are beyond their rows (a sum above the greatest int)");
        RoomDealer x = new RoomDealer();
        Due.fill(x, 0, 1, 2, 3, 4);
        Due.fill(x, 1, 11, 12, 13);
        due.is("i greatest", x.paste(0, GREATEST, 1, 0, 1), -6);
        due.is("k greatest", x.paste(0, 0, 1, GREATEST, 1), -6);
        due.is("n greatest", x.paste(0, 1, 1, 1, GREATEST), -6);
        due.is("all greatest", x.paste(0, GREATEST, 1, GREATEST, GREATEST), -6);
        due.same("to", Due.numbers(x, 1, 3), "11 12 13");
    }

    private static void pasteOrder() {
        due.sentence("5: -2, -5, -7, -6 in this order");
        RoomDealer x = new RoomDealer();
        due.is("-2 ahead of -5", x.paste(0, 0, 4, 0, 1), -2);
        due.is("-2 ahead of -5", x.paste(-1, 0, 0, 0, 1), -2);
        Due.fill(x, 0, 1, 2);
        due.is("-5 ahead of -6", x.paste(0, -1, 1, 0, 1), -5);
        x.row(1, 0, 2);
        due.is("-7 ahead of -6", x.paste(0, -1, 1, 0, 1), -7);
        due.is("-7 ahead of -6", x.paste(0, 0, 1, 3, 1), -7);
    }
}
