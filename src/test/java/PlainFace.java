/** The promises 1 to 20 again, word by word, over PlainModel: what each call of the face answers. */
final class PlainFace {
    private final long[][] rows = new long[4][];
    private final int[] bytes = new int[4];
    private final PlainModel model = new PlainModel();
    private boolean runs = false;
    private boolean tells = false;
    private boolean ranEver = false;

    PlainFace() {
        setTerms(8, 256, 0, 50, 2);
    }

    private static boolean within(int v, int low, int high) {
        return low <= v && v <= high;
    }

    private boolean isSlot(int slot) {
        return within(slot, 0, 3);
    }

    private boolean isProgram(int program) {
        return within(program, 0, programs() - 1);
    }

    int programs() {
        return model.programs.size();
    }

    /** How many ways there are at most to deal by STEPS; best() goes through all of them. */
    double waysToDeal() {
        double ways = 1;
        int steps = model.terms.all / model.terms.step;
        for (int i = 1; i <= programs(); i++) {
            ways = ways * (steps + i) / i;
        }
        return ways;
    }

    int row(int slot, int width, int n) {
        if (!isSlot(slot) || !within(width, 0, 3) || n > 60) {
            return -2;
        }
        if (n < 0) {
            return -3;
        }
        rows[slot] = new long[n];
        bytes[slot] = 1 << width;
        return 0;
    }

    boolean tear(int slot) {
        boolean had = isSlot(slot) && rows[slot] != null;
        if (had) {
            rows[slot] = null;
        }
        return had;
    }

    int write(int slot, int i, long v) {
        if (!isSlot(slot)) {
            return -2;
        }
        if (rows[slot] == null) {
            return -5;
        }
        if (!within(i, 0, rows[slot].length - 1)) {
            return -6;
        }
        int unused = 64 - 8 * bytes[slot];
        rows[slot][i] = v << unused >> unused;
        return 0;
    }

    int paste(int slot, int i, int to, int k, int n) {
        if (!isSlot(slot) || !isSlot(to)) {
            return -2;
        }
        if (rows[slot] == null || rows[to] == null) {
            return -5;
        }
        if (bytes[slot] != bytes[to]) {
            return -7;
        }
        if (i < 0 || k < 0 || n < 0 || (long) i + n > rows[slot].length || (long) k + n > rows[to].length) {
            return -6;
        }
        long[] asTheyWere = rows[slot].clone();
        for (int j = 0; j < n; j++) {
            rows[to][k + j] = asTheyWere[i + j];
        }
        return 0;
    }

    int terms(int step, int all, int reserve, int each, int swing) {
        if (runs) {
            return -9;
        }
        if (!within(step, 1, 64) || !within(all, step, 4096) || all % step != 0 || all / step > 64
                || !within(reserve, 0, all) || reserve % step != 0
                || !within(each, 1, 1000) || !within(swing, 0, 9)) {
            return -2;
        }
        setTerms(step, all, reserve, each, swing);
        model.shares = null;
        return 0;
    }

    private void setTerms(int step, int all, int reserve, int each, int swing) {
        model.terms.step = step;
        model.terms.all = all;
        model.terms.reserve = reserve;
        model.terms.each = each;
        model.terms.swing = swing;
    }

    int program(int slot, int collector, int rounds, int floor) {
        if (runs) {
            return -9;
        }
        if (!isSlot(slot) || !within(collector, 0, 1) || !within(rounds, 1, 40) || !within(floor, 0, 1000)) {
            return -2;
        }
        if (programs() == 6) {
            return -3;
        }
        if (rows[slot] == null) {
            return -5;
        }
        if (rows[slot].length == 0) {
            return -8;
        }
        PlainModel.Program p = new PlainModel.Program();
        p.row = new int[rows[slot].length];
        for (int i = 0; i < p.row.length; i++) {
            long v = rows[slot][i];
            if (v < -59 || v > 1200 || v > 99 && v < 1001) {
                return -4;
            }
            p.row[i] = (int) v;
        }
        p.copy = collector == 0;
        p.rounds = rounds;
        p.floor = floor;
        model.programs.add(p);
        model.shares = null;
        return programs() - 1;
    }

    int clear() {
        int were = programs();
        model.programs.clear();
        model.shares = null;
        runs = false;
        tells = false;
        return were;
    }

    int time(int program, int room) {
        return isProgram(program) && within(room, 0, 4096) ? PlainModel.time(model.programs.get(program), room) : -2;
    }

    int need(int program) {
        return isProgram(program) ? model.need(model.programs.get(program)) : -2;
    }

    int falls(int program) {
        return isProgram(program) ? model.falls(model.programs.get(program)) : -2;
    }

    int deal() {
        return model.deal();
    }

    int best() {
        return model.best();
    }

    int share(int program) {
        return isProgram(program) && model.shares != null ? model.shares[program] : -1;
    }

    boolean begin() {
        if (!model.begin()) {
            return false;
        }
        runs = true;
        tells = true;
        ranEver = true;
        return true;
    }

    boolean stop() {
        boolean ran = runs;
        runs = false;
        return ran;
    }

    int run(int n) {
        if (!within(n, 1, 2000)) {
            return -2;
        }
        return runs ? model.run(n) : -9;
    }

    int of(int program, int what) {
        return tells && within(program, 0, model.lives.size() - 1) ? model.of(program, what) : -2;
    }

    int count(int what) {
        int kept = Math.min(60, model.log.size());
        int ofARun = ranEver ? 1 : 0;
        return switch (what) {
            case 0 -> programs();
            case 1 -> model.terms.step;
            case 2 -> model.terms.all;
            case 3 -> model.terms.reserve;
            case 4 -> model.terms.each;
            case 5 -> model.terms.swing;
            case 6 -> runs ? 1 : 0;
            case 7 -> ofARun * model.now;
            case 8 -> ofARun * model.pool;
            case 9 -> ofARun * kept;
            case 10 -> ofARun * model.log.size();
            case 11 -> rowsThere();
            default -> -1;
        };
    }

    private int rowsThere() {
        int there = 0;
        for (long[] row : rows) {
            there += row == null ? 0 : 1;
        }
        return there;
    }

    int log(int i, int what) {
        int kept = count(9);
        return within(i, 0, kept - 1) && within(what, 0, 3) ? model.log.get(model.log.size() - kept + i)[what] : -2;
    }
}
