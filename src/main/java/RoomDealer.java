/**
 * A dealer of room for programs that make things and let them die, each in a heap of its own.
 * The words in capitals are those of the document's Terms.
 */
public final class RoomDealer {
    public static final int NONE = -1;

    private static final int WRONG = -2;
    private static final int BELOW_ZERO = -3;
    private static final int FULL = -3;
    private static final int NO_ACT = -4;
    private static final int NOTHING_THERE = -5;
    private static final int BEYOND = -6;
    private static final int OTHER_WIDTH = -7;
    private static final int NO_NUMBERS = -8;
    private static final int RUNNING = -9;
    private static final int NOT_RUNNING = -9;

    private static final int SLOTS = 4;
    private static final int WIDTHS = 4;
    private static final int LONGEST_ROW = 60;
    private static final int MOST_PROGRAMS = 6;
    private static final int COLLECTORS = 2;
    private static final int COPY = 0;
    private static final int MOST_ROUNDS = 40;
    private static final int MOST_FLOOR = 1000;
    private static final int MOST_ROOM = 4096;
    private static final int MOST_STEP = 64;
    private static final int MOST_STEPS = 64;
    private static final int MOST_EACH = 1000;
    private static final int MOST_SWING = 9;
    private static final int MOST_TICKS = 2000;

    private static final int MOST_CELLS = 99;
    private static final int FARTHEST_DEATH = 59;
    private static final int SLEEP = 1000;
    private static final int LONGEST_SLEEP = 200;
    private static final int RISES_OF_A_LEAKER = 3;

    private static final int READY = 0;
    private static final int BUSY = 1;
    private static final int ASLEEP = 2;
    private static final int ENDED = 3;
    private static final int FAILED = 4;

    private static final int LOG_LENGTH = 60;
    private static final int TOLD_COLLECTED = 0;
    private static final int TOLD_ASKED = 1;
    private static final int TOLD_FAILED = 2;
    private static final int TOLD_GAVE = 3;
    private static final int TOLD_SQUEEZED = 4;
    private static final int TOLD_WOKEN = 5;
    private static final int TOLD_ENDED = 6;
    private static final int TOLD_LEAKER = 7;
    private static final int TOLD_GOT = 8;

    private final Slot[] slots;
    private final Terms agreed;
    private final Program[] programs;
    private final Dealer dealer;
    private final Together together;
    private int programCount;

    public RoomDealer() {
        slots = new Slot[SLOTS];
        for (int i = 0; i < SLOTS; i++) {
            slots[i] = new Slot();
        }
        programs = new Program[MOST_PROGRAMS];
        for (int i = 0; i < MOST_PROGRAMS; i++) {
            programs[i] = new Program();
        }
        agreed = new Terms();
        dealer = new Dealer(agreed);
        together = new Together(agreed, programs);
    }

    public int row(int slot, int width, int n) {
        if (!isSlot(slot) || width < 0 || width >= WIDTHS || n > LONGEST_ROW) {
            return WRONG;
        }
        if (n < 0) {
            return BELOW_ZERO;
        }
        slots[slot].lay(width, n);
        return 0;
    }

    public boolean tear(int slot) {
        if (!isSlot(slot) || slots[slot].isBare()) {
            return false;
        }
        slots[slot].strip();
        return true;
    }

    public int write(int slot, int i, long v) {
        if (!isSlot(slot)) {
            return WRONG;
        }
        Slot s = slots[slot];
        if (s.isBare()) {
            return NOTHING_THERE;
        }
        if (i < 0 || i >= s.length) {
            return BEYOND;
        }
        s.numbers[i] = s.cut(v);
        return 0;
    }

    public int paste(int slot, int i, int to, int k, int n) {
        if (!isSlot(slot) || !isSlot(to)) {
            return WRONG;
        }
        Slot from = slots[slot];
        Slot into = slots[to];
        if (from.isBare() || into.isBare()) {
            return NOTHING_THERE;
        }
        if (from.width != into.width) {
            return OTHER_WIDTH;
        }
        if (!from.hasPlaces(i, n) || !into.hasPlaces(k, n)) {
            return BEYOND;
        }
        System.arraycopy(from.numbers, i, into.numbers, k, n);
        return 0;
    }

    public int terms(int step, int all, int reserve, int each, int swing) {
        if (together.runs) {
            return RUNNING;
        }
        if (!Terms.areSound(step, all, reserve) || each < 1 || each > MOST_EACH
                || swing < 0 || swing > MOST_SWING) {
            return WRONG;
        }
        agreed.step = step;
        agreed.all = all;
        agreed.reserve = reserve;
        agreed.each = each;
        agreed.swing = swing;
        dealer.dealt = false;
        for (int i = 0; i < programCount; i++) {
            programs[i].timesKnown = false;
        }
        return 0;
    }

    public int program(int slot, int collector, int rounds, int floor) {
        if (together.runs) {
            return RUNNING;
        }
        if (!isSlot(slot) || collector < 0 || collector >= COLLECTORS
                || rounds < 1 || rounds > MOST_ROUNDS || floor < 0 || floor > MOST_FLOOR) {
            return WRONG;
        }
        if (programCount >= MOST_PROGRAMS) {
            return FULL;
        }
        Slot s = slots[slot];
        if (s.isBare()) {
            return NOTHING_THERE;
        }
        if (s.length == 0) {
            return NO_NUMBERS;
        }
        if (!s.holdsActsAlone()) {
            return NO_ACT;
        }
        programs[programCount].become(s, collector == COPY, rounds, floor);
        dealer.dealt = false;
        programCount++;
        return programCount - 1;
    }

    public int clear() {
        int there = programCount;
        programCount = 0;
        dealer.dealt = false;
        together.runs = false;
        together.count = 0;
        return there;
    }

    public int time(int program, int room) {
        if (!isProgram(program) || room < 0 || room > MOST_ROOM) {
            return WRONG;
        }
        return dealer.timeByRoom(programs[program], room);
    }

    public int need(int program) {
        if (!isProgram(program)) {
            return WRONG;
        }
        int steps = dealer.needInSteps(programs[program]);
        return steps == NONE ? NONE : steps * agreed.step;
    }

    public int falls(int program) {
        if (!isProgram(program)) {
            return WRONG;
        }
        Program p = programs[program];
        int steps = dealer.needInSteps(p);
        if (steps == NONE) {
            return NONE;
        }
        return p.fallsEverSlower(steps, agreed.allSteps()) ? 1 : 0;
    }

    public int deal() {
        return dealer.bySavings(programs, programCount);
    }

    public int best() {
        return dealer.atBest(programs, programCount);
    }

    public int share(int program) {
        if (!isProgram(program) || !dealer.dealt) {
            return NONE;
        }
        return dealer.shares[program] * agreed.step;
    }

    public boolean begin() {
        int sum = dealer.bySavings(programs, programCount);
        if (sum == NONE || programCount == 0) {
            return false;
        }
        together.start(programCount, dealer.shares);
        return true;
    }

    public boolean stop() {
        boolean ran = together.runs;
        together.runs = false;
        return ran;
    }

    public int run(int n) {
        if (n < 1 || n > MOST_TICKS) {
            return WRONG;
        }
        if (!together.runs) {
            return NOT_RUNNING;
        }
        for (int i = 0; i < n && together.someGoOn(); i++) {
            together.tick();
        }
        return together.now;
    }

    public int of(int program, int what) {
        if (program < 0 || program >= together.count) {
            return WRONG;
        }
        return together.runners[program].told(what);
    }

    public int count(int what) {
        switch (what) {
            case 0: return programCount;
            case 1: return agreed.step;
            case 2: return agreed.all;
            case 3: return agreed.reserve;
            case 4: return agreed.each;
            case 5: return agreed.swing;
            case 6: return together.runs ? 1 : 0;
            case 7: return together.now;
            case 8: return together.pool;
            case 9: return together.story.kept();
            case 10: return together.story.came;
            case 11: return rowsThere();
            default: return NONE;
        }
    }

    public int log(int i, int what) {
        return together.story.told(i, what);
    }

    private boolean isSlot(int slot) {
        return slot >= 0 && slot < SLOTS;
    }

    private boolean isProgram(int program) {
        return program >= 0 && program < programCount;
    }

    private int rowsThere() {
        int there = 0;
        for (int i = 0; i < SLOTS; i++) {
            if (!slots[i].isBare()) {
                there++;
            }
        }
        return there;
    }

    /** A SLOT: a row of numbers of one WIDTH, or nothing. */
    private static final class Slot {
        final long[] numbers = new long[LONGEST_ROW];
        int width = NONE;
        int length = 0;

        boolean isBare() {
            return width == NONE;
        }

        void lay(int newWidth, int newLength) {
            width = newWidth;
            length = newLength;
            for (int i = 0; i < LONGEST_ROW; i++) {
                numbers[i] = 0L;
            }
        }

        void strip() {
            width = NONE;
            length = 0;
        }

        long cut(long v) {
            switch (width) {
                case 0: return (byte) v;
                case 1: return (short) v;
                case 2: return (int) v;
                default: return v;
            }
        }

        /** The difference can't wrap around, as the sum of a place and n could. */
        boolean hasPlaces(int first, int n) {
            return first >= 0 && n >= 0 && first <= length && n <= length - first;
        }

        boolean holdsActsAlone() {
            for (int i = 0; i < length; i++) {
                if (!isAct(numbers[i])) {
                    return false;
                }
            }
            return true;
        }

        private static boolean isAct(long v) {
            return v >= -FARTHEST_DEATH && v <= MOST_CELLS
                    || v > SLEEP && v <= SLEEP + LONGEST_SLEEP;
        }
    }

    /** The TERMS; STEP is never below 1, EACH neither, so both may divide. */
    private static final class Terms {
        int step = 8;
        int all = 256;
        int reserve = 0;
        int each = 50;
        int swing = 2;

        static boolean areSound(int step, int all, int reserve) {
            if (step < 1 || step > MOST_STEP) {
                return false;
            }
            return all >= step && all <= MOST_ROOM && all % step == 0 && all / step <= MOST_STEPS
                    && reserve >= 0 && reserve <= all && reserve % step == 0;
        }

        int allSteps() {
            return all / step;
        }

        int dealtSteps() {
            return (all - reserve) / step;
        }

        int stepsFor(int room) {
            return (room + step - 1) / step;
        }
    }

    /** A PROGRAM as it was told; its ROW is a copy, so that the SLOT can be used again. */
    private static final class Program {
        final int[] acts = new int[LONGEST_ROW];
        int length;
        boolean copies;
        int rounds;
        int floor;
        /** TIME by each number of STEPS, kept until the TERMS change, as it is dear to find. */
        final int[] times = new int[MOST_STEPS + 1];
        boolean timesKnown;

        void become(Slot s, boolean copyCollector, int roundsOfIt, int floorOfIt) {
            length = s.length;
            for (int i = 0; i < length; i++) {
                acts[i] = (int) s.numbers[i];
            }
            copies = copyCollector;
            rounds = roundsOfIt;
            floor = floorOfIt;
            timesKnown = false;
        }

        static boolean isMake(int act) {
            return act > 0 && act < SLEEP;
        }

        int holds(int room) {
            return copies ? room / 2 : room;
        }

        int roomFor(int cells) {
            return copies ? 2 * cells : cells;
        }

        int costToCollect(int live, int used) {
            return copies ? 1 + 2 * live : 1 + live + used / 2;
        }

        boolean fallsEverSlower(int first, int last) {
            int ahead = Integer.MAX_VALUE;
            for (int k = first; k < last; k++) {
                int fall = times[k] - times[k + 1];
                if (fall < 0 || fall > ahead) {
                    return false;
                }
                ahead = fall;
            }
            return true;
        }
    }

    /** What a PROGRAM made, as far back as a death can reach. */
    private static final class Things {
        private static final int REACH = FARTHEST_DEATH + 1;
        final int[] cells = new int[REACH];
        int makes = 0;
        int live = 0;

        void forget() {
            makes = 0;
            live = 0;
        }

        void add(int v) {
            cells[makes % REACH] = v;
            makes++;
            live += v;
        }

        /** One that is dead has no cells any more, so that a second death changes nothing. */
        void die(int ago) {
            if (ago < 1 || ago > FARTHEST_DEATH || ago > makes) {
                return;
            }
            int i = (makes - ago) % REACH;
            live -= cells[i];
            cells[i] = 0;
        }
    }

    /**
     * A PROGRAM gone through by itself, with several ROOMS at once, the least first: LIVE is the
     * same in all of them, so only USED and the costs are kept for each.
     */
    private static final class Trial {
        private static final int LANES = MOST_STEPS + 1;
        final Things things = new Things();
        final int[] holds = new int[LANES];
        final int[] used = new int[LANES];
        final int[] costs = new int[LANES];
        int lanes;
        int firstAlive;
        int ticks;

        void pass(Program p, int leastRoom, int step, int howMany) {
            lanes = Math.min(howMany, LANES);
            firstAlive = 0;
            ticks = 0;
            things.forget();
            for (int k = 0; k < lanes; k++) {
                holds[k] = p.holds(leastRoom + k * step);
                used[k] = 0;
                costs[k] = 0;
            }
            for (int r = 0; r < p.rounds && firstAlive < lanes; r++) {
                passRound(p);
            }
        }

        private void passRound(Program p) {
            for (int i = 0; i < p.length; i++) {
                int act = p.acts[i];
                ticks += act > SLEEP ? act - SLEEP : 1;
                if (act < 0) {
                    things.die(-act);
                } else if (Program.isMake(act)) {
                    makeInAll(p, act);
                }
            }
        }

        /** A MAKE FAILS just where LIVE and v are too much, and there in all smaller ROOMS too. */
        private void makeInAll(Program p, int v) {
            int live = things.live;
            while (firstAlive < lanes && live + v > holds[firstAlive]) {
                firstAlive++;
            }
            for (int k = firstAlive; k < lanes; k++) {
                if (used[k] + v > holds[k]) {
                    costs[k] += p.costToCollect(live, used[k]);
                    used[k] = live;
                }
                used[k] += v;
            }
            things.add(v);
        }

        int timeOf(int lane) {
            return lane < firstAlive || lane >= lanes ? NONE : ticks + costs[lane];
        }
    }

    /** Deals SHARES, counted in STEPS. */
    private static final class Dealer {
        final Terms terms;
        final Trial trial = new Trial();
        final int[] shares = new int[MOST_PROGRAMS];
        private final int[] needs = new int[MOST_PROGRAMS];
        boolean dealt = false;
        /** [i][k]: the least sum of TIMES of PROGRAMS i and up with k STEPS for them, or NONE. */
        private final int[][] least = new int[MOST_PROGRAMS + 1][MOST_STEPS + 1];

        Dealer(Terms agreed) {
            terms = agreed;
        }

        int timeByRoom(Program p, int room) {
            trial.pass(p, room, 0, 1);
            return trial.timeOf(0);
        }

        int needInSteps(Program p) {
            learnTimes(p);
            for (int k = terms.stepsFor(p.floor); k <= terms.allSteps(); k++) {
                if (p.times[k] != NONE) {
                    return k;
                }
            }
            return NONE;
        }

        private void learnTimes(Program p) {
            if (p.timesKnown) {
                return;
            }
            int top = terms.allSteps();
            trial.pass(p, 0, terms.step, top + 1);
            for (int k = 0; k <= top; k++) {
                p.times[k] = trial.timeOf(k);
            }
            p.timesKnown = true;
        }

        int bySavings(Program[] programs, int count) {
            dealt = false;
            int left = terms.dealtSteps();
            for (int i = 0; i < count; i++) {
                int needed = needInSteps(programs[i]);
                if (needed == NONE || needed > left) {
                    return NONE;
                }
                shares[i] = needed;
                left -= needed;
            }
            for (; left > 0; left--) {
                int i = whoSavesMost(programs, count);
                if (i == NONE) {
                    break;
                }
                shares[i]++;
            }
            dealt = true;
            return sumOfTimes(programs, count);
        }

        private int whoSavesMost(Program[] programs, int count) {
            int who = NONE;
            int most = 0;
            for (int i = 0; i < count; i++) {
                int k = shares[i];
                if (k < terms.allSteps()) {
                    int saved = programs[i].times[k] - programs[i].times[k + 1];
                    if (saved > most) {
                        most = saved;
                        who = i;
                    }
                }
            }
            return who;
        }

        private int sumOfTimes(Program[] programs, int count) {
            int sum = 0;
            for (int i = 0; i < count; i++) {
                sum += programs[i].times[shares[i]];
            }
            return sum;
        }

        int atBest(Program[] programs, int count) {
            dealt = false;
            int top = terms.dealtSteps();
            for (int k = 0; k <= top; k++) {
                least[count][k] = 0;
            }
            for (int i = count - 1; i >= 0; i--) {
                needs[i] = needInSteps(programs[i]);
                for (int k = 0; k <= top; k++) {
                    int share = firstBestShare(programs[i], i, k);
                    least[i][k] = share == NONE ? NONE : sumWith(programs[i], i, share, k);
                }
            }
            if (least[0][top] == NONE) {
                return NONE;
            }
            takeFirstBest(programs, count, top);
            dealt = true;
            return least[0][top];
        }

        private void takeFirstBest(Program[] programs, int count, int top) {
            int left = top;
            for (int i = 0; i < count; i++) {
                int share = firstBestShare(programs[i], i, left);
                shares[i] = Math.max(share, 0);
                left -= shares[i];
            }
        }

        /** The least SHARE of PROGRAM i with which it and those behind it take least, or NONE. */
        private int firstBestShare(Program p, int i, int left) {
            int share = NONE;
            int sum = 0;
            if (needs[i] == NONE) {
                return NONE;
            }
            for (int k = needs[i]; k <= left; k++) {
                int other = sumWith(p, i, k, left);
                if (other != NONE && (share == NONE || other < sum)) {
                    share = k;
                    sum = other;
                }
            }
            return share;
        }

        private int sumWith(Program p, int i, int share, int left) {
            int behind = least[i + 1][left - share];
            return behind == NONE || p.times[share] == NONE ? NONE : p.times[share] + behind;
        }
    }

    /** A PROGRAM that RUNS with the others. */
    private static final class Runner {
        final Things things = new Things();
        final int number;
        final Program program;
        int how;
        int room;
        int used;
        int roundsOver;
        int place;
        int costs;
        int costsSinceRedeal;
        int endedAt;
        int waits;
        boolean leaker;
        boolean squeezed;
        int roomAheadOfSqueeze;
        int liveAtRoundEnd;
        int rises;

        Runner(int itsNumber, Program itsProgram) {
            number = itsNumber;
            program = itsProgram;
        }

        void start(int share) {
            things.forget();
            how = READY;
            room = share;
            used = 0;
            roundsOver = 0;
            place = 0;
            costs = 0;
            costsSinceRedeal = 0;
            endedAt = NONE;
            waits = 0;
            leaker = false;
            squeezed = false;
            roomAheadOfSqueeze = 0;
            liveAtRoundEnd = 0;
            rises = 0;
        }

        boolean goesOn() {
            return how != ENDED && how != FAILED;
        }

        boolean isAwake() {
            return how == READY || how == BUSY;
        }

        int nextAct() {
            return place >= 0 && place < program.length ? program.acts[place] : 0;
        }

        boolean isAboutToMake() {
            return how == READY && Program.isMake(nextAct());
        }

        boolean fits(int v) {
            return used + v <= program.holds(room);
        }

        int keep(Terms terms) {
            return terms.step * terms.stepsFor(Math.max(program.floor, program.roomFor(things.live)));
        }

        int spare(Terms terms) {
            return goesOn() ? Math.max(room - keep(terms), 0) : 0;
        }

        int collectNow() {
            int cost = program.costToCollect(things.live, used);
            used = things.live;
            costs += cost;
            costsSinceRedeal += cost;
            return cost;
        }

        void makeNow(int v) {
            things.add(v);
            used += v;
        }

        void waitFor(int ticks, int meanwhile) {
            waits = ticks;
            how = ticks > 0 ? meanwhile : READY;
        }

        /** Counts the rise of LIVE from the ROUND ahead; the first one has none ahead of it. */
        void endRound() {
            rises = roundsOver > 0 && things.live > liveAtRoundEnd ? rises + 1 : 0;
            liveAtRoundEnd = things.live;
            roundsOver++;
            place = 0;
        }

        /** The room that it leaves. */
        int leave(int asWhat, int now) {
            int left = room;
            how = asWhat;
            endedAt = now;
            room = 0;
            used = 0;
            things.live = 0;
            return left;
        }

        private int cellsOfStep(int step) {
            return program.copies ? Math.max(step / 2, 1) : step;
        }

        long gain(Terms terms) {
            if (!isAwake() || leaker) {
                return 0L;
            }
            int s = cellsOfStep(terms.step);
            int afterwards = program.holds(room) - things.live + s;
            return afterwards > 0 ? (long) costsSinceRedeal * s / afterwards : 0L;
        }

        /** NONE: no STEP can be taken from it. */
        long loss(Terms terms) {
            if (!isAwake() || room - keep(terms) < terms.step) {
                return NONE;
            }
            int s = cellsOfStep(terms.step);
            int afterwards = program.holds(room) - things.live - s;
            return afterwards > 0 ? (long) costsSinceRedeal * s / afterwards : NONE;
        }

        int told(int what) {
            switch (what) {
                case 0: return how;
                case 1: return room;
                case 2: return used;
                case 3: return things.live;
                case 4: return roundsOver;
                case 5: return how == ENDED ? WRONG : place;
                case 6: return things.makes;
                case 7: return costs;
                case 8: return costsSinceRedeal;
                case 9: return endedAt;
                case 10: return leaker ? 1 : 0;
                case 11: return squeezed ? 1 : 0;
                case 12: return waits;
                default: return WRONG;
            }
        }
    }

    /** THE LOG: the latest entries, in rings. */
    private static final class Story {
        private final int[] when = new int[LOG_LENGTH];
        private final int[] who = new int[LOG_LENGTH];
        private final int[] whats = new int[LOG_LENGTH];
        private final int[] amounts = new int[LOG_LENGTH];
        int came = 0;

        void forget() {
            came = 0;
        }

        int kept() {
            return Math.min(came, LOG_LENGTH);
        }

        void add(int now, int program, int what, int amount) {
            int at = came % LOG_LENGTH;
            when[at] = now;
            who[at] = program;
            whats[at] = what;
            amounts[at] = amount;
            came++;
        }

        int told(int i, int what) {
            if (i < 0 || i >= kept()) {
                return WRONG;
            }
            int at = (came - kept() + i) % LOG_LENGTH;
            switch (what) {
                case 0: return when[at];
                case 1: return who[at];
                case 2: return whats[at];
                case 3: return amounts[at];
                default: return WRONG;
            }
        }
    }

    /** All PROGRAMS together, tick by tick. */
    private static final class Together {
        final Terms terms;
        final Story story = new Story();
        final Runner[] runners = new Runner[MOST_PROGRAMS];
        /** How many RUN or ran latest; 0 when nothing is to be told of them. */
        int count = 0;
        boolean runs = false;
        int now = 0;
        int pool = 0;

        Together(Terms agreed, Program[] programs) {
            terms = agreed;
            for (int i = 0; i < MOST_PROGRAMS; i++) {
                runners[i] = new Runner(i, programs[i]);
            }
        }

        void start(int howMany, int[] shares) {
            story.forget();
            runs = true;
            now = 0;
            count = howMany;
            pool = terms.all;
            for (int i = 0; i < count; i++) {
                int share = shares[i] * terms.step;
                runners[i].start(share);
                pool -= share;
            }
        }

        boolean someGoOn() {
            for (int i = 0; i < count; i++) {
                if (runners[i].goesOn()) {
                    return true;
                }
            }
            return false;
        }

        void tick() {
            now++;
            for (int i = 0; i < count; i++) {
                Runner p = runners[i];
                if (p.isAboutToMake()) {
                    tryMake(p);
                } else if (p.how == READY) {
                    doOtherAct(p);
                } else if (p.goesOn()) {
                    passTick(p);
                }
            }
            if (now % terms.each == 0) {
                redeal();
            }
        }

        private void passTick(Runner p) {
            boolean slept = p.how == ASLEEP;
            p.waitFor(p.waits - 1, p.how);
            if (slept && p.how == READY) {
                wake(p);
                endAct(p);
            }
        }

        private void doOtherAct(Runner p) {
            int act = p.nextAct();
            if (act < 0) {
                p.things.die(-act);
            } else if (act > SLEEP) {
                p.waitFor(act - SLEEP - 1, ASLEEP);
            }
            if (p.how == READY) {
                endAct(p);
            }
        }

        private void tryMake(Runner p) {
            int v = p.nextAct();
            if (!p.fits(v)) {
                if (p.used > p.things.live) {
                    p.waitFor(collect(p) - 1, BUSY);
                    return;
                }
                if (!getsByAsking(p, v)) {
                    leave(p, FAILED, TOLD_FAILED);
                    return;
                }
            }
            p.makeNow(v);
            endAct(p);
        }

        private void wake(Runner p) {
            if (!p.squeezed) {
                return;
            }
            int got = Math.min(pool, Math.max(p.roomAheadOfSqueeze - p.room, 0));
            pool -= got;
            p.room += got;
            p.squeezed = false;
            story.add(now, p.number, TOLD_WOKEN, got);
        }

        private void endAct(Runner p) {
            p.place++;
            if (p.place < p.program.length) {
                return;
            }
            p.endRound();
            if (!p.leaker && p.rises >= RISES_OF_A_LEAKER) {
                p.leaker = true;
                story.add(now, p.number, TOLD_LEAKER, p.things.live);
            }
            if (p.roundsOver >= p.program.rounds) {
                leave(p, ENDED, TOLD_ENDED);
            }
        }

        private void leave(Runner p, int asWhat, int what) {
            int left = p.leave(asWhat, now);
            pool += left;
            story.add(now, p.number, what, left);
        }

        private int collect(Runner p) {
            int cost = p.collectNow();
            story.add(now, p.number, TOLD_COLLECTED, cost);
            return cost;
        }

        private boolean getsByAsking(Runner p, int v) {
            int m = terms.step * terms.stepsFor(p.program.roomFor(p.used + v) - p.room);
            if (pool + spareOfOthers(p) < m || p.leaker && p.room + m > fairPart()) {
                return false;
            }
            int fromPool = Math.min(pool, m);
            pool -= fromPool;
            int missing = m - fromPool;
            for (int i = 0; i < count && missing > 0; i++) {
                Runner other = runners[i];
                int lent = other.how == ASLEEP ? Math.min(other.spare(terms), missing) : 0;
                if (lent > 0) {
                    give(other, lent);
                    missing -= lent;
                }
            }
            int stepsMissing = terms.stepsFor(missing);
            for (int k = 0; k < stepsMissing; k++) {
                int i = whoSparesMost(p);
                if (i != NONE) {
                    give(runners[i], terms.step);
                }
            }
            p.room += m;
            story.add(now, p.number, TOLD_ASKED, m);
            return true;
        }

        private int fairPart() {
            return count > 0 ? terms.all / count : 0;
        }

        private int spareOfOthers(Runner p) {
            int sum = 0;
            for (int i = 0; i < count; i++) {
                if (i != p.number) {
                    sum += runners[i].spare(terms);
                }
            }
            return sum;
        }

        /** Sleepers are asked ahead of this, so they have nothing to spare any more. */
        private int whoSparesMost(Runner p) {
            int who = NONE;
            int most = 0;
            for (int i = 0; i < count; i++) {
                int spare = i == p.number ? 0 : runners[i].spare(terms);
                if (spare > most) {
                    most = spare;
                    who = i;
                }
            }
            return who;
        }

        private void give(Runner p, int amount) {
            if (p.used > p.program.holds(p.room - amount)) {
                int cost = collect(p);
                if (p.how != ASLEEP) {
                    p.waitFor(p.waits + cost, BUSY);
                }
            }
            p.room -= amount;
            story.add(now, p.number, TOLD_GAVE, amount);
        }

        private void redeal() {
            for (int i = 0; i < count; i++) {
                if (runners[i].how == ASLEEP && !runners[i].squeezed) {
                    squeeze(runners[i]);
                }
            }
            boolean moved = true;
            for (int k = 0; k < terms.swing && moved; k++) {
                moved = movesStep();
            }
            for (int i = 0; i < count; i++) {
                runners[i].costsSinceRedeal = 0;
            }
        }

        private void squeeze(Runner p) {
            if (p.used > p.things.live) {
                collect(p);
            }
            int lent = p.spare(terms);
            p.squeezed = true;
            p.roomAheadOfSqueeze = p.room;
            p.room -= lent;
            pool += lent;
            story.add(now, p.number, TOLD_SQUEEZED, lent);
        }

        private boolean movesStep() {
            int to = whoGainsMost();
            if (to == NONE) {
                return false;
            }
            if (pool >= terms.reserve + terms.step) {
                pool -= terms.step;
            } else {
                int from = whoLosesLeast(to);
                if (from == NONE || runners[from].loss(terms) >= runners[to].gain(terms)) {
                    return false;
                }
                give(runners[from], terms.step);
            }
            runners[to].room += terms.step;
            story.add(now, to, TOLD_GOT, terms.step);
            return true;
        }

        private int whoGainsMost() {
            int who = NONE;
            long most = 0L;
            for (int i = 0; i < count; i++) {
                long gain = runners[i].gain(terms);
                if (gain > most) {
                    most = gain;
                    who = i;
                }
            }
            return who;
        }

        private int whoLosesLeast(int notThisOne) {
            int who = NONE;
            long least = 0L;
            for (int i = 0; i < count; i++) {
                long loss = i == notThisOne ? NONE : runners[i].loss(terms);
                if (loss != NONE && (who == NONE || loss < least)) {
                    least = loss;
                    who = i;
                }
            }
            return who;
        }
    }
}
