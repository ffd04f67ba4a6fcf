import java.util.ArrayList;
import java.util.HashMap;
import java.util.List;
import java.util.Map;

/**
 * The document's Terms II to IV again, word by word and by search where the class computes: rooms
 * are tried one STEP after the other, LIVE is summed up from what lives, best is looked for among
 * all SHARES. It is slow, and only for small TERMS.
 */
final class PlainModel {
    static final int NONE = -1;

    static final class Terms {
        int step, all, reserve, each, swing;
    }

    static final class Program {
        int[] row;
        boolean copy;
        int rounds;
        int floor;
        /** TIME by ROOM, as far as it was asked for: it is asked for again and again. */
        final Map<Integer, Integer> times = new HashMap<>();

        int holds(int room) {
            return copy ? room / 2 : room;
        }

        int cost(int live, int used) {
            return copy ? 1 + live + live : 1 + live + used / 2;
        }
    }

    /** One PROGRAM with its HEAP; made.get(j) is 0 when what the MAKE j made has died. */
    static final class Life {
        final Program p;
        final int number;
        final List<Integer> made = new ArrayList<>();
        final List<Integer> roundEnds = new ArrayList<>();
        String how = "READY";
        int room, used, actsOver, ticksLeft, costs, since, had;
        int endedAt = NONE;
        boolean leaker, squeezed;

        Life(Program p, int number, int room) {
            this.p = p;
            this.number = number;
            this.room = room;
        }

        boolean over() {
            return how.equals("ENDED") || how.equals("FAILED");
        }

        int live() {
            int sum = 0;
            for (int cells : made) {
                sum += cells;
            }
            return over() ? 0 : sum;
        }

        int act() {
            return p.row[actsOver % p.row.length];
        }

        void die(int ago) {
            if (made.size() >= ago) {
                made.set(made.size() - ago, 0);
            }
        }

        int keep(int step) {
            int k = 0;
            while (k < p.floor || p.holds(k) < live()) {
                k += step;
            }
            return k;
        }

        int spare(int step) {
            return over() ? 0 : Math.max(0, room - keep(step));
        }
    }

    final Terms terms = new Terms();
    final List<Program> programs = new ArrayList<>();
    final List<Life> lives = new ArrayList<>();
    final List<int[]> log = new ArrayList<>();
    int[] shares;
    int now, pool;
    int refusedLeakers = 0;
    int movedFromOthers = 0;
    int lentBySleepers = 0;

    static int time(Program p, int room) {
        return p.times.computeIfAbsent(room, r -> timeAnew(p, r));
    }

    private static int timeAnew(Program p, int room) {
        Life l = new Life(p, 0, room);
        int ticks = 0;
        while (l.actsOver < p.row.length * p.rounds) {
            int act = l.act();
            if (act >= 1 && act <= 99) {
                if (l.used + act > p.holds(room) && l.used > l.live()) {
                    ticks += p.cost(l.live(), l.used);
                    l.used = l.live();
                }
                if (l.used + act > p.holds(room)) {
                    return NONE;
                }
                l.made.add(act);
                l.used += act;
                ticks++;
            } else if (act > 1000) {
                ticks += act - 1000;
            } else {
                if (act < 0) {
                    l.die(-act);
                }
                ticks++;
            }
            l.actsOver++;
        }
        return ticks;
    }

    int need(Program p) {
        for (int room = 0; room <= terms.all; room += terms.step) {
            if (room >= p.floor && time(p, room) != NONE) {
                return room;
            }
        }
        return NONE;
    }

    int falls(Program p) {
        int need = need(p);
        if (need == NONE) {
            return NONE;
        }
        List<Integer> falls = new ArrayList<>();
        for (int room = need; room + terms.step <= terms.all; room += terms.step) {
            falls.add(time(p, room) - time(p, room + terms.step));
        }
        for (int i = 0; i < falls.size(); i++) {
            if (falls.get(i) < 0 || i > 0 && falls.get(i) > falls.get(i - 1)) {
                return 0;
            }
        }
        return 1;
    }

    int deal() {
        int n = programs.size();
        int[] got = new int[n];
        int left = terms.all - terms.reserve;
        shares = null;
        for (int i = 0; i < n; i++) {
            got[i] = need(programs.get(i));
            if (got[i] == NONE) {
                return NONE;
            }
            left -= got[i];
        }
        if (left < 0) {
            return NONE;
        }
        while (left >= terms.step) {
            int who = NONE;
            int most = 0;
            for (int i = 0; i < n; i++) {
                int saved = time(programs.get(i), got[i]) - time(programs.get(i), got[i] + terms.step);
                if (saved > most) {
                    most = saved;
                    who = i;
                }
            }
            if (who == NONE) {
                break;
            }
            got[who] += terms.step;
            left -= terms.step;
        }
        shares = got;
        return sum(got);
    }

    private int sum(int[] got) {
        int sum = 0;
        for (int i = 0; i < got.length; i++) {
            sum += time(programs.get(i), got[i]);
        }
        return sum;
    }

    private int bestSum;
    private int[] bestShares;

    int best() {
        bestSum = NONE;
        bestShares = null;
        int n = programs.size();
        int[][] times = new int[n][terms.all / terms.step + 1];
        for (int i = 0; i < n; i++) {
            int need = need(programs.get(i));
            for (int k = 0; k < times[i].length; k++) {
                boolean may = need != NONE && k * terms.step >= need;
                times[i][k] = may ? time(programs.get(i), k * terms.step) : NONE;
            }
        }
        tryAll(times, 0, (terms.all - terms.reserve) / terms.step, 0, new int[n]);
        shares = bestShares;
        return bestSum;
    }

    /** In order, so that the first of several is met first. */
    private void tryAll(int[][] times, int i, int left, int sum, int[] got) {
        if (i == got.length) {
            if (bestSum == NONE || sum < bestSum) {
                bestSum = sum;
                bestShares = got.clone();
            }
            return;
        }
        for (int k = 0; k <= left; k++) {
            if (times[i][k] != NONE) {
                got[i] = k * terms.step;
                tryAll(times, i + 1, left - k, sum + times[i][k], got);
            }
        }
    }

    boolean begin() {
        if (deal() == NONE || programs.isEmpty()) {
            return false;
        }
        lives.clear();
        log.clear();
        now = 0;
        pool = terms.all;
        for (int i = 0; i < shares.length; i++) {
            lives.add(new Life(programs.get(i), i, shares[i]));
            pool -= shares[i];
        }
        return true;
    }

    int run(int n) {
        for (int i = 0; i < n; i++) {
            boolean some = false;
            for (Life l : lives) {
                some = some || !l.over();
            }
            if (some) {
                tick();
            }
        }
        return now;
    }

    private void tell(Life l, int what, int amount) {
        log.add(new int[] {now, l.number, what, amount});
    }

    private void tick() {
        now++;
        for (Life l : lives) {
            switch (l.how) {
                case "BUSY" -> {
                    l.ticksLeft--;
                    if (l.ticksLeft == 0) {
                        l.how = "READY";
                    }
                }
                case "ASLEEP" -> {
                    l.ticksLeft--;
                    if (l.ticksLeft == 0) {
                        l.how = "READY";
                        actIsOver(l, true);
                    }
                }
                case "READY" -> act(l);
                default -> { }
            }
        }
        if (now % terms.each == 0) {
            redeal();
        }
    }

    private void act(Life l) {
        int act = l.act();
        if (act > 1001) {
            l.how = "ASLEEP";
            l.ticksLeft = act - 1000 - 1;
        } else if (act == 1001 || act == 0) {
            actIsOver(l, false);
        } else if (act < 0) {
            l.die(-act);
            actIsOver(l, false);
        } else if (l.used + act <= l.p.holds(l.room)) {
            make(l, act);
        } else if (l.used > l.live()) {
            int cost = collect(l);
            l.ticksLeft = cost - 1;
            l.how = cost == 1 ? "READY" : "BUSY";
        } else if (ask(l, act)) {
            make(l, act);
        } else {
            goAway(l, "FAILED", 2);
        }
    }

    private void make(Life l, int cells) {
        l.made.add(cells);
        l.used += cells;
        actIsOver(l, false);
    }

    private int collect(Life l) {
        int cost = l.p.cost(l.live(), l.used);
        l.used = l.live();
        l.costs += cost;
        l.since += cost;
        tell(l, 0, cost);
        return cost;
    }

    private void actIsOver(Life l, boolean wasAsleep) {
        if (wasAsleep && l.squeezed) {
            int got = 0;
            while (pool >= terms.step && l.room < l.had) {
                pool -= terms.step;
                l.room += terms.step;
                got += terms.step;
            }
            l.squeezed = false;
            tell(l, 5, got);
        }
        l.actsOver++;
        if (l.actsOver % l.p.row.length != 0) {
            return;
        }
        List<Integer> e = l.roundEnds;
        e.add(l.live());
        int k = e.size() - 1;
        if (k >= 3 && e.get(k) > e.get(k - 1) && e.get(k - 1) > e.get(k - 2) && e.get(k - 2) > e.get(k - 3)
                && !l.leaker) {
            l.leaker = true;
            tell(l, 7, l.live());
        }
        if (e.size() == l.p.rounds) {
            goAway(l, "ENDED", 6);
        }
    }

    private void goAway(Life l, String how, int what) {
        tell(l, what, l.room);
        pool += l.room;
        l.room = 0;
        l.used = 0;
        l.how = how;
        l.endedAt = now;
    }

    private boolean ask(Life l, int cells) {
        int m = 0;
        while (l.p.holds(l.room + m) < l.used + cells) {
            m += terms.step;
        }
        int there = pool;
        for (Life other : lives) {
            there += other == l ? 0 : other.spare(terms.step);
        }
        if (there < m) {
            return false;
        }
        if (l.leaker && l.room + m > terms.all / lives.size()) {
            refusedLeakers++;
            return false;
        }
        int missing = m;
        while (missing > 0 && pool > 0) {
            pool -= terms.step;
            missing -= terms.step;
        }
        for (Life other : lives) {
            if (other != l && other.how.equals("ASLEEP")) {
                int lent = Math.min(missing, other.spare(terms.step));
                if (lent > 0) {
                    give(other, lent);
                    missing -= lent;
                    lentBySleepers++;
                }
            }
        }
        while (missing > 0) {
            Life richest = null;
            for (Life other : lives) {
                boolean may = other != l && !other.how.equals("ASLEEP");
                if (may && (richest == null || other.spare(terms.step) > richest.spare(terms.step))) {
                    richest = other;
                }
            }
            give(richest, terms.step);
            missing -= terms.step;
        }
        l.room += m;
        tell(l, 1, m);
        return true;
    }

    private void give(Life l, int amount) {
        if (l.used > l.p.holds(l.room - amount)) {
            int cost = collect(l);
            if (!l.how.equals("ASLEEP")) {
                l.how = "BUSY";
                l.ticksLeft += cost;
            }
        }
        l.room -= amount;
        tell(l, 3, amount);
    }

    private void redeal() {
        for (Life l : lives) {
            if (l.how.equals("ASLEEP") && !l.squeezed) {
                if (l.used > l.live()) {
                    collect(l);
                }
                l.squeezed = true;
                l.had = l.room;
                int lent = Math.max(0, l.room - l.keep(terms.step));
                l.room -= lent;
                pool += lent;
                tell(l, 4, lent);
            }
        }
        for (int i = 0; i < terms.swing; i++) {
            if (!moveOne()) {
                break;
            }
        }
        for (Life l : lives) {
            l.since = 0;
        }
    }

    private boolean moveOne() {
        Life to = null;
        int most = 0;
        for (Life l : lives) {
            boolean may = (l.how.equals("READY") || l.how.equals("BUSY")) && !l.leaker;
            int s = l.p.copy ? Math.max(1, terms.step / 2) : terms.step;
            int a = l.p.holds(l.room) - l.live();
            int gain = may ? l.since * s / (a + s) : 0;
            if (gain > most) {
                most = gain;
                to = l;
            }
        }
        if (to == null) {
            return false;
        }
        if (pool >= terms.reserve + terms.step) {
            pool -= terms.step;
        } else {
            Life from = null;
            int least = Integer.MAX_VALUE;
            for (Life l : lives) {
                boolean may = l != to && (l.how.equals("READY") || l.how.equals("BUSY"));
                int s = l.p.copy ? Math.max(1, terms.step / 2) : terms.step;
                int a = l.p.holds(l.room) - l.live();
                if (may && l.spare(terms.step) >= terms.step && a > s && l.since * s / (a - s) < least) {
                    least = l.since * s / (a - s);
                    from = l;
                }
            }
            if (from == null || least >= most) {
                return false;
            }
            give(from, terms.step);
            movedFromOthers++;
        }
        to.room += terms.step;
        tell(to, 8, terms.step);
        return true;
    }

    int of(int program, int what) {
        Life l = lives.get(program);
        return switch (what) {
            case 0 -> List.of("READY", "BUSY", "ASLEEP", "ENDED", "FAILED").indexOf(l.how);
            case 1 -> l.room;
            case 2 -> l.used;
            case 3 -> l.live();
            case 4 -> l.roundEnds.size();
            case 5 -> l.how.equals("ENDED") ? -2 : l.actsOver % l.p.row.length;
            case 6 -> l.made.size();
            case 7 -> l.costs;
            case 8 -> l.since;
            case 9 -> l.endedAt;
            case 10 -> l.leaker ? 1 : 0;
            case 11 -> l.squeezed ? 1 : 0;
            case 12 -> l.ticksLeft;
            default -> -2;
        };
    }
}
