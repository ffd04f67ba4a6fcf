/** Promises 12 to 14, deal, best, share, in ordinary use. */
public final class DealsTest {
    private static final Due due = new Due();

    public static void main(String[] args) {
        withoutPrograms();
        needsAlone();
        savesStepByStep();
        bestSeesFarther();
        firstOfSeveral();
        leavesWhatSavesNothing();
        cantBe();
        sharesVanish();
        due.end();
    }

    private static void withoutPrograms() {
        RoomDealer x = new RoomDealer();
        due.is("deal", x.deal(), 0);
        due.is("best", x.best(), 0);
        due.is("share", x.share(0), -1);
    }

    private static void needsAlone() {
        RoomDealer x = new RoomDealer();
        x.terms(4, 24, 0, 1, 1);
        Due.program(x, Due.MARK, 3, 0, 4, -1);
        Due.program(x, Due.COPY, 3, 0, 10, -1);
        due.is("deal: 12 by 4, 6 and 2 by 20", x.deal(), 12 + 8);
        due.same("shares", Due.shares(x, 3), "4 20 -1");
        due.is("best", x.best(), 12 + 8);
        due.same("shares", Due.shares(x, 2), "4 20");
        due.is("share -1", x.share(-1), -1);
        x.terms(4, 32, 8, 1, 1);
        due.is("deal with a reserve", x.deal(), 20);
        due.same("shares", Due.shares(x, 2), "4 20");
        x.terms(4, 32, 12, 1, 1);
        due.is("the reserve is too much", x.deal(), -1);
        due.is("the reserve is too much", x.best(), -1);
    }

    /** MARK, [4, -1] 20 times: 97 85 82 76 73 79 by 4 .. 24. */
    private static void savesStepByStep() {
        RoomDealer x = new RoomDealer();
        Due.program(x, Due.MARK, 20, 0, 4, -1);
        x.terms(4, 24, 0, 1, 1);
        due.is("deal ends ahead of the step that takes longer", x.deal(), 73);
        due.same("share", Due.shares(x, 1), "20");
        due.is("best", x.best(), 73);
        due.same("share", Due.shares(x, 1), "20");

        Due.program(x, Due.MARK, 20, 0, 4, -1);
        x.terms(4, 8, 0, 1, 1);
        due.is("deal", x.deal(), 194);
        due.same("needs", Due.shares(x, 2), "4 4");
        x.terms(4, 12, 0, 1, 1);
        due.is("deal", x.deal(), 182);
        due.same("of several the least number", Due.shares(x, 2), "8 4");
        x.terms(4, 16, 0, 1, 1);
        due.is("deal", x.deal(), 170);
        due.same("12 saved there, 3 here", Due.shares(x, 2), "8 8");
        x.terms(4, 20, 0, 1, 1);
        due.is("deal", x.deal(), 167);
        due.same("3 saved by the first", Due.shares(x, 2), "12 8");
        x.terms(4, 24, 0, 1, 1);
        due.is("deal", x.deal(), 161);
        due.same("6 saved by the first", Due.shares(x, 2), "16 8");
        due.is("best", x.best(), 161);
        due.same("8 and 16 take as long", Due.shares(x, 2), "8 16");
    }

    /** Three makes: 12 11 6 by 4, 8, 12 (MARK); one step saves little, two save much. */
    private static void bestSeesFarther() {
        RoomDealer x = new RoomDealer();
        Due.program(x, Due.MARK, 3, 0, 4, -1);
        Due.program(x, Due.MARK, 2, 0, 4, -1);
        due.is("7 by 4", x.time(1, 4), 7);
        due.is("4 by 8", x.time(1, 8), 4);
        x.terms(4, 16, 0, 1, 1);
        due.is("deal takes the 3 first", x.deal(), 15);
        due.same("and is left with 1", Due.shares(x, 2), "8 8");
        due.is("best takes the 6", x.best(), 13);
        due.same("in two steps", Due.shares(x, 2), "12 4");
        x.terms(4, 20, 4, 1, 1);
        due.is("the reserve is not dealt", x.best(), 13);
        x.terms(4, 20, 0, 1, 1);
        due.is("room for both", x.best(), 10);
        due.same("shares", Due.shares(x, 2), "12 8");
        x.terms(4, 256, 0, 1, 1);
        due.is("room for more", x.best(), 10);
        due.same("the first is the least", Due.shares(x, 2), "12 8");

        x.clear();
        Due.program(x, Due.MARK, 1, 0, 4, -1, 1001, 8, -1);
        x.terms(4, 64, 0, 1, 1);
        due.is("8 by 8: nothing falls by one step", x.time(0, 8), 8);
        due.is("5 by 12", x.time(0, 12), 5);
        due.is("deal", x.deal(), 5);
        x.clear();
        Due.program(x, Due.MARK, 1, 0, 8, -1, 8, -1);
        due.is("9 by 8", x.time(0, 12), 9);
        due.is("4 by 16", x.time(0, 16), 4);
        due.is("deal sees one step alone", x.deal(), 9);
        due.same("share", Due.shares(x, 1), "8");
        due.is("best sees all", x.best(), 4);
        due.same("share", Due.shares(x, 1), "16");
    }

    private static void firstOfSeveral() {
        RoomDealer x = new RoomDealer();
        for (int i = 0; i < 6; i++) {
            Due.program(x, Due.MARK, 2, 0, 4, -1);
        }
        x.terms(4, 36, 0, 1, 1);
        due.is("deal: three steps are left", x.deal(), 6 * 7 - 9);
        due.same("the least numbers get them", Due.shares(x, 6), "8 8 8 4 4 4");
        due.is("best", x.best(), 6 * 7 - 9);
        due.same("PROGRAM 0's is the least, then 1's ..", Due.shares(x, 6), "4 4 4 8 8 8");
    }

    private static void leavesWhatSavesNothing() {
        RoomDealer x = new RoomDealer();
        Due.program(x, Due.COPY, 1, 10, 1);
        Due.program(x, Due.MARK, 1, 0, 0);
        x.terms(4, 64, 0, 1, 1);
        due.is("deal", x.deal(), 2);
        due.same("a floor, and nothing", Due.shares(x, 2), "12 0");
        due.is("best", x.best(), 2);
        due.same("a floor, and nothing", Due.shares(x, 2), "12 0");
    }

    private static void cantBe() {
        RoomDealer x = new RoomDealer();
        Due.program(x, Due.MARK, 1, 0, 8);
        Due.program(x, Due.MARK, 1, 0, 99);
        x.terms(8, 64, 0, 1, 1);
        due.is("one has no need: deal", x.deal(), -1);
        due.is("one has no need: best", x.best(), -1);
        x.terms(8, 112, 0, 1, 1);
        due.is("just enough: deal", x.deal(), 2);
        due.same("shares", Due.shares(x, 2), "8 104");
        x.terms(8, 104, 0, 1, 1);
        due.is("needs are too much: deal", x.deal(), -1);
        due.same("no shares", Due.shares(x, 2), "-1 -1");
        due.is("needs are too much: best", x.best(), -1);
        due.same("no shares", Due.shares(x, 2), "-1 -1");
        x.terms(8, 112, 112, 1, 1);
        due.is("nothing is dealt", x.deal(), -1);
        x.clear();
        Due.program(x, Due.MARK, 1, 0, 0);
        due.is("but one that needs nothing gets that", x.deal(), 1);
        due.is("share", x.share(0), 0);
        due.is("at best too", x.best(), 1);
        due.is("share", x.share(0), 0);
    }

    private static void sharesVanish() {
        RoomDealer x = new RoomDealer();
        Due.program(x, Due.MARK, 1, 0, 8);
        due.is("no deal yet", x.share(0), -1);
        x.deal();
        due.is("dealt", x.share(0), 8);
        due.is("refused terms", x.terms(0, 8, 0, 1, 1), -2);
        due.is("refused program", x.program(0, 2, 1, 0), -2);
        due.is("are nothing to shares", x.share(0), 8);
        x.terms(4, 16, 0, 1, 1);
        due.is("terms", x.share(0), -1);
        x.best();
        due.is("best", x.share(0), 8);
        x.program(0, 1, 1, 0);
        due.same("program", Due.shares(x, 2), "-1 -1");
        x.begin();
        due.same("begin", Due.shares(x, 2), "8 8");
        x.run(1);
        due.same("what happens is nothing to shares", Due.shares(x, 2), "8 8");
        x.stop();
        due.same("stop neither", Due.shares(x, 2), "8 8");
        x.clear();
        due.is("clear", x.share(0), -1);
        x.program(0, 1, 1, 0);
        due.is("behind clear", x.share(0), -1);
        x.terms(4, 4, 0, 1, 1);
        due.is("a vain begin deals in vain", x.begin(), false);
        due.is("no share", x.share(0), -1);
    }
}
