/**
 * Calls in any order, with right and wrong arguments, always the same ones; each answer against
 * PlainFace. So what a call leaves behind is looked at by whatever comes next: promises 1 to 20.
 */
public final class CallsTest {
    private static final Due due = new Due();
    private static final int OBJECTS = 4000;
    private static final int CALLS = 512;
    private static final int MOST_WAYS = 20000;
    private static final int[] WRONG = {
        Integer.MIN_VALUE, -60, -2, -1, 4, 6, 13, 41, 61, 65, 100, 1000, 1201, 2001, 4097, Integer.MAX_VALUE,
    };
    private static final String[] NAMES = {
        "row", "tear", "write", "paste", "terms", "program", "clear", "time", "need", "falls", "deal", "best",
        "share", "begin", "stop", "run", "of", "count", "log",
    };
    /** How often a call comes, as a share of the sum of all. */
    private static final int[] WEIGHTS = {5, 1, 16, 5, 6, 10, 1, 4, 3, 3, 3, 3, 8, 8, 2, 14, 30, 16, 20};
    private static final int[] refused = new int[NAMES.length];
    private static final int[] answered = new int[NAMES.length];
    private static long state = 1;

    private final RoomDealer x = new RoomDealer();
    private final PlainFace plain = new PlainFace();
    private final String object;
    private int which;

    private CallsTest(int seed) {
        object = "object " + seed;
    }

    public static void main(String[] args) {
        for (int seed = 1; seed <= OBJECTS; seed++) {
            state = seed * 32452843L;
            CallsTest t = new CallsTest(seed);
            for (int call = 0; call < CALLS; call++) {
                t.anyCall(call);
            }
        }
        everyCallCame();
        due.end();
    }

    private static int pick(int low, int high) {
        state = state * 6364136223846793005L + 1442695040888963407L;
        return low + (int) ((state >>> 33) % (high - low + 1));
    }

    /** Mostly from low to high; now and then one beyond, or something far away. */
    private static int arg(int low, int high) {
        int kind = pick(0, 59);
        if (kind == 0) {
            return WRONG[pick(0, WRONG.length - 1)];
        }
        if (kind == 1) {
            return pick(0, 1) == 0 ? low - 1 : high + 1;
        }
        return pick(low, high);
    }

    private static int anyName() {
        int all = 0;
        for (int weight : WEIGHTS) {
            all += weight;
        }
        int left = pick(0, all - 1);
        for (int i = 0; i < WEIGHTS.length; i++) {
            left -= WEIGHTS[i];
            if (left < 0) {
                return i;
            }
        }
        return 0;
    }

    private static long number() {
        int kind = pick(0, 39);
        if (kind == 0) {
            return ((long) pick(-3, 3) << 32) + pick(-70, 1210);
        }
        if (kind == 1) {
            return pick(-70, 1210);
        }
        if (kind <= 4) {
            return 1000 + pick(1, pick(0, 4) == 0 ? 200 : 9);
        }
        return kind <= 18 ? -pick(0, 4) : pick(1, pick(0, 4) == 0 ? 99 : 9);
    }

    private void same(String call, int got, int want) {
        due.is(object + ": " + call, got, want);
        (want < 0 ? refused : answered)[which]++;
    }

    private void same(String call, boolean got, boolean want) {
        due.is(object + ": " + call, got, want);
        (want ? answered : refused)[which]++;
    }

    private void anyCall(int call) {
        which = anyName();
        String name = "call " + call + ", " + NAMES[which];
        if (which <= 3) {
            slotCall(name);
        } else if (which <= 6) {
            programCall(name);
        } else if (which <= 12) {
            dealCall(name);
        } else {
            runCall(name);
        }
    }

    private void slotCall(String name) {
        int slot = arg(0, 3);
        switch (which) {
            case 0 -> {
                int width = arg(1, 3);
                int n = arg(0, 5);
                same(name, x.row(slot, width, n), plain.row(slot, width, n));
            }
            case 1 -> same(name, x.tear(slot), plain.tear(slot));
            case 2 -> {
                int i = arg(0, 3);
                long v = number();
                same(name, x.write(slot, i, v), plain.write(slot, i, v));
            }
            default -> {
                int i = arg(0, 3);
                int to = arg(0, 3);
                int k = arg(0, 3);
                int n = arg(0, 3);
                same(name, x.paste(slot, i, to, k, n), plain.paste(slot, i, to, k, n));
            }
        }
    }

    private void programCall(String name) {
        if (which == 4) {
            int step = arg(1, 9);
            int all = arg(1, 12) * step + (pick(0, 19) == 0 ? 1 : 0);
            int reserve = arg(0, 2) * step + (pick(0, 19) == 0 ? 1 : 0);
            int each = arg(1, 9);
            int swing = arg(0, 9);
            same(name, x.terms(step, all, reserve, each, swing), plain.terms(step, all, reserve, each, swing));
        } else if (which == 5) {
            int slot = arg(0, 3);
            int collector = arg(0, 1);
            int rounds = arg(1, 9);
            int floor = pick(0, 3) == 0 ? arg(0, 30) : 0;
            same(name, x.program(slot, collector, rounds, floor), plain.program(slot, collector, rounds, floor));
        } else {
            same(name, x.clear(), plain.clear());
        }
    }

    private void dealCall(String name) {
        int program = arg(0, Math.max(plain.programs() - 1, 0));
        switch (which) {
            case 7 -> {
                int room = arg(0, 60);
                same(name, x.time(program, room), plain.time(program, room));
            }
            case 8 -> same(name, x.need(program), plain.need(program));
            case 9 -> same(name, x.falls(program), plain.falls(program));
            case 10 -> same(name, x.deal(), plain.deal());
            case 11 -> {
                if (plain.waysToDeal() <= MOST_WAYS) {
                    same(name, x.best(), plain.best());
                }
            }
            default -> same(name, x.share(program), plain.share(program));
        }
    }

    private void runCall(String name) {
        switch (which) {
            case 13 -> same(name, x.begin(), plain.begin());
            case 14 -> same(name, x.stop(), plain.stop());
            case 15 -> {
                int n = arg(1, pick(0, 4) == 0 ? 60 : 6);
                same(name, x.run(n), plain.run(n));
            }
            case 16 -> {
                int program = arg(0, Math.max(plain.programs() - 1, 0));
                int what = arg(0, 12);
                same(name, x.of(program, what), plain.of(program, what));
            }
            case 17 -> {
                int what = arg(0, 11);
                same(name, x.count(what), plain.count(what));
            }
            default -> {
                int i = arg(0, Math.max(plain.count(9) - 1, 0));
                int what = arg(0, 3);
                same(name, x.log(i, what), plain.log(i, what));
            }
        }
    }

    /** A comparison in which a call is always refused, or never, would tell little. */
    private static void everyCallCame() {
        StringBuilder all = new StringBuilder("answered and refused:");
        for (int i = 0; i < NAMES.length; i++) {
            all.append(' ').append(NAMES[i]).append(' ').append(answered[i]).append('/').append(refused[i]);
            due.is(NAMES[i] + " was answered often", answered[i] >= 1000, true);
            boolean canBeRefused = !NAMES[i].equals("clear");
            due.is(NAMES[i] + " was refused often", !canBeRefused || refused[i] >= 1000, true);
        }
        System.out.println(all);
    }
}
