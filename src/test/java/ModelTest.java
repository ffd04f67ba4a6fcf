/** Random programs and terms, always the same ones, against PlainModel: promises 9 to 20. */
public final class ModelTest {
    private static final Due due = new Due();
    private static final int RUNS = 12000;
    private static final int GREAT_RUNS = 3000;
    private static final int[] cameOfKind = new int[9];
    private static int begunOnes = 0;
    private static int refusedLeakers = 0;
    private static int movedFromOthers = 0;
    private static int lentBySleepers = 0;
    private static long state = 1;

    public static void main(String[] args) {
        PlainModel ahead = null;
        for (int seed = 1; seed <= RUNS; seed++) {
            state = seed * 7919L;
            ahead = compare("seed " + seed, randomModel(), ahead);
        }
        for (int seed = 1; seed <= GREAT_RUNS; seed++) {
            state = seed * 15485863L;
            ahead = compare("great seed " + seed, greatModel(), ahead);
        }
        everythingCame();
        due.end();
    }

    /** By two objects, as one is not promised to answer more than 512 calls. */
    private static PlainModel compare(String run, PlainModel m, PlainModel ahead) {
        compareAnswers(run + ": ", m);
        compareLog(run + ", log: ", m, ahead);
        return m;
    }

    /** From low to high, both of them too. */
    private static int pick(int low, int high) {
        state = state * 6364136223846793005L + 1442695040888963407L;
        return low + (int) ((state >>> 33) % (high - low + 1));
    }

    private static int act(int sleepiness) {
        int kind = pick(0, 9 + sleepiness);
        if (kind <= 4) {
            return pick(1, 12);
        }
        if (kind <= 8) {
            return -pick(1, pick(0, 9) == 0 ? 59 : 4);
        }
        return kind == 9 ? 0 : 1000 + pick(1, 14);
    }

    private static PlainModel randomModel() {
        PlainModel m = new PlainModel();
        int n = pick(1, 6);
        int sleepiness = pick(0, 4);
        for (int i = 0; i < n; i++) {
            PlainModel.Program p = new PlainModel.Program();
            p.row = new int[pick(1, 9)];
            for (int j = 0; j < p.row.length; j++) {
                p.row[j] = act(sleepiness);
            }
            p.copy = pick(0, 1) == 0;
            p.rounds = pick(1, pick(0, 2) == 0 ? 2 : 12);
            p.floor = pick(0, 2) == 0 ? pick(0, 30) : 0;
            m.programs.add(p);
        }
        pickTerms(m, pick(1, 12));
        return m;
    }

    private static int greatAct(int sleepiness) {
        int kind = pick(0, 9 + sleepiness);
        if (kind <= 4) {
            return pick(1, 99);
        }
        if (kind <= 8) {
            return -pick(1, pick(0, 4) == 0 ? 59 : 5);
        }
        return kind == 9 ? 0 : 1000 + pick(1, 200);
    }

    /** Up to the sizes that the document allows, as far as 512 calls can lay them. */
    private static PlainModel greatModel() {
        PlainModel m = new PlainModel();
        int n = pick(1, 6);
        int sleepiness = pick(0, 3);
        for (int i = 0; i < n; i++) {
            PlainModel.Program p = new PlainModel.Program();
            p.row = new int[n == 1 ? pick(30, 60) : pick(1, 80 / n)];
            for (int j = 0; j < p.row.length; j++) {
                p.row[j] = greatAct(sleepiness);
            }
            p.copy = pick(0, 1) == 0;
            p.rounds = pick(1, pick(0, 1) == 0 ? 3 : 40);
            p.floor = pick(0, 3) == 0 ? pick(0, 1000) : 0;
            m.programs.add(p);
        }
        pickTerms(m, pick(0, 1) == 0 ? 64 : pick(20, 63));
        return m;
    }

    /** ALL is mostly not far above the needs, or just that, so that room is short and has to move. */
    private static void pickTerms(PlainModel m, int step) {
        PlainModel.Terms t = m.terms;
        t.step = step;
        t.all = 64 * t.step;
        int needed = 0;
        for (PlainModel.Program p : m.programs) {
            needed += Math.max(0, m.need(p)) / t.step;
        }
        t.reserve = t.step * (pick(0, 2) == 0 ? pick(0, 3) : 0);
        int steps = needed + t.reserve / t.step + pick(0, 5) - (pick(0, 19) == 0 ? 1 : 0);
        t.all = t.step * Math.max(1, Math.min(64, steps));
        t.reserve = Math.min(t.reserve, t.all);
        t.each = pick(1, pick(0, 1) == 0 ? 5 : 25);
        t.swing = pick(0, 9);
        if (pick(0, 1) == 0) {
            t.reserve = 0;
            t.all = t.step * Math.max(1, Math.min(64, needed));
            t.each = pick(4, 30);
            t.swing = 9;
        }
    }

    private static void lay(RoomDealer x, PlainModel m) {
        for (int i = 0; i < m.programs.size(); i++) {
            PlainModel.Program p = m.programs.get(i);
            due.is("program", Due.program(x, p.copy ? 0 : 1, p.rounds, p.floor, p.row), i);
        }
        PlainModel.Terms t = m.terms;
        due.is("terms", x.terms(t.step, t.all, t.reserve, t.each, t.swing), 0);
    }

    private static void compareAnswers(String run, PlainModel m) {
        RoomDealer x = new RoomDealer();
        lay(x, m);
        askOfEach(run, x, m);
        due.is(run + "best", x.best(), m.best());
        sameShares(run + "best", x, m);
        due.is(run + "deal", x.deal(), m.deal());
        sameShares(run + "deal", x, m);
        boolean begun = m.begin();
        due.is(run + "begin", x.begin(), begun);
        if (!begun) {
            return;
        }
        begunOnes++;
        for (int part = 0; part < 3; part++) {
            int ticks = pick(1, part < 2 ? 12 : 150);
            due.is(run + "run", x.run(ticks), m.run(ticks));
            sameState(run + "at " + m.now + ": ", x, m);
        }
        due.is(run + "to the end", x.run(2000), m.run(2000));
        sameState(run + "at the end: ", x, m);
    }

    /** An object that ran something else ahead shows whether anything is left of that. */
    private static void compareLog(String run, PlainModel m, PlainModel ahead) {
        RoomDealer x = new RoomDealer();
        if (ahead != null) {
            lay(x, ahead);
            x.deal();
            x.begin();
            x.run(pick(1, 60));
            due.is(run + "clear", x.clear(), ahead.programs.size());
        }
        lay(x, m);
        boolean begun = m.begin();
        due.is(run + "begin", x.begin(), begun);
        if (!begun) {
            return;
        }
        for (int part = 0; part < 4; part++) {
            int ticks = pick(1, part < 3 ? 12 : 150);
            due.is(run + "run", x.run(ticks), m.run(ticks));
            due.is(run + "came", x.count(10), m.log.size());
        }
        if (pick(0, 1) == 0) {
            due.is(run + "to the end", x.run(2000), m.run(2000));
        }
        sameLog(run + "at " + m.now + ": ", x, m);
        m.run(2000);
        countWhatCame(m);
    }

    private static void askOfEach(String run, RoomDealer x, PlainModel m) {
        for (int i = 0; i < m.programs.size(); i++) {
            PlainModel.Program p = m.programs.get(i);
            int room = pick(0, 150);
            due.is(run + "time", x.time(i, room), PlainModel.time(p, room));
            due.is(run + "need", x.need(i), m.need(p));
            due.is(run + "falls", x.falls(i), m.falls(p));
        }
    }

    private static void sameShares(String run, RoomDealer x, PlainModel m) {
        for (int i = 0; i < m.programs.size(); i++) {
            due.is(run + ": share", x.share(i), m.shares == null ? -1 : m.shares[i]);
        }
    }

    private static void sameState(String when, RoomDealer x, PlainModel m) {
        int pool = x.count(8);
        int rooms = pool;
        for (int i = 0; i < m.lives.size(); i++) {
            for (int what = 0; what <= 12; what++) {
                int got = x.of(i, what);
                due.is(when + "of(" + i + ", " + what + ")", got, m.of(i, what));
                rooms += what == 1 ? got : 0;
            }
        }
        due.is(when + "no room is lost", rooms, m.terms.all);
        due.is(when + "NOW", x.count(7), m.now);
        due.is(when + "pool", pool, m.pool);
        due.is(when + "came", x.count(10), m.log.size());
    }

    private static void sameLog(String when, RoomDealer x, PlainModel m) {
        int kept = Math.min(60, m.log.size());
        due.is(when + "came", x.count(10), m.log.size());
        due.is(when + "kept", x.count(9), kept);
        for (int i = 0; i < kept; i++) {
            for (int what = 0; what < 4; what++) {
                int want = m.log.get(m.log.size() - kept + i)[what];
                due.is(when + "log(" + i + ", " + what + ")", x.log(i, what), want);
            }
        }
        due.is(when + "log beyond", x.log(kept, 0), -2);
    }

    private static void countWhatCame(PlainModel m) {
        for (int[] entry : m.log) {
            cameOfKind[entry[2]]++;
        }
        refusedLeakers += m.refusedLeakers;
        movedFromOthers += m.movedFromOthers;
        lentBySleepers += m.lentBySleepers;
    }

    /** A comparison of runs in which nothing happens would tell nothing. */
    private static void everythingCame() {
        StringBuilder all = new StringBuilder("entries of each kind:");
        for (int kind = 0; kind < cameOfKind.length; kind++) {
            all.append(' ').append(cameOfKind[kind]);
            due.is("enough entries of kind " + kind, cameOfKind[kind] >= 50, true);
        }
        System.out.println("begun: " + begunOnes + "; " + all + "; leakers refused: " + refusedLeakers + "; steps moved from others: "
                + movedFromOthers + "; lent by sleepers: " + lentBySleepers);
        due.is("leakers were refused", refusedLeakers >= 50, true);
        due.is("steps moved from others", movedFromOthers >= 50, true);
        due.is("lent by sleepers", lentBySleepers >= 50, true);
    }
}
