import java.util.ArrayList;
import java.util.List;

/** What the tests share: comparing an answer with the one that is due, and laying programs. */
final class Due {
    static final int MARK = 1;
    static final int COPY = 0;

    private int asked = 0;
    private int wrong = 0;
    private int sentences = 0;
    private String about = "";

    /** Names the sentence of the document that the next answers are about. */
    void sentence(String words) {
        sentences++;
        about = "[" + words + "] ";
    }

    void is(String call, long got, long want) {
        asked++;
        if (got != want) {
            tellWrong(call, String.valueOf(got), String.valueOf(want));
        }
    }

    void is(String call, boolean got, boolean want) {
        is(call, got ? 1L : 0L, want ? 1L : 0L);
    }

    void same(String call, String got, String want) {
        asked++;
        if (!got.equals(want)) {
            tellWrong(call, got, want);
        }
    }

    private void tellWrong(String call, String got, String want) {
        wrong++;
        if (wrong <= 40) {
            System.out.println(about + call + " answered " + got + ", due is " + want);
        }
    }

    void end() {
        String of = sentences == 0 ? "" : " to " + sentences + " sentences";
        System.out.println(asked + " answers" + of + ", " + wrong + " not as due");
        if (wrong != 0 || asked == 0) {
            System.exit(1);
        }
    }

    /** A new object with these terms. */
    static RoomDealer with(int step, int all, int reserve, int each, int swing) {
        RoomDealer x = new RoomDealer();
        if (x.terms(step, all, reserve, each, swing) != 0) {
            throw new IllegalArgumentException("a test has wrong terms");
        }
        return x;
    }

    /** Lays the acts in slot 0 and makes a program of them. */
    static int program(RoomDealer x, int collector, int rounds, int floor, int... acts) {
        x.row(0, 2, acts.length);
        for (int i = 0; i < acts.length; i++) {
            x.write(0, i, acts[i]);
        }
        return x.program(0, collector, rounds, floor);
    }

    /** Lays a row of 4-byte numbers in a slot. */
    static void fill(RoomDealer x, int slot, int... numbers) {
        x.row(slot, 2, numbers.length);
        for (int i = 0; i < numbers.length; i++) {
            x.write(slot, i, numbers[i]);
        }
    }

    /** The numbers (1 .. 64 each) of a slot's row of 4 bytes, by what a program of each needs. */
    static String numbers(RoomDealer x, int slot, int n) {
        StringBuilder found = new StringBuilder();
        x.terms(1, 64, 0, 1, 1);
        x.row(3, 2, 1);
        for (int i = 0; i < n; i++) {
            x.paste(slot, i, 3, 0, 1);
            x.clear();
            x.program(3, MARK, 1, 0);
            found.append(i == 0 ? "" : " ").append(x.need(0));
        }
        return found.toString();
    }

    /** The kept entries, as "NOW PROGRAM what amount" each. */
    static String logOf(RoomDealer x) {
        List<String> entries = new ArrayList<>();
        for (int i = 0; i < x.count(9); i++) {
            entries.add(x.log(i, 0) + " " + x.log(i, 1) + " " + x.log(i, 2) + " " + x.log(i, 3));
        }
        return String.join("; ", entries);
    }

    /** All that is told of a program, 0 to 12. */
    static String allOf(RoomDealer x, int program) {
        StringBuilder all = new StringBuilder();
        for (int what = 0; what <= 12; what++) {
            all.append(what == 0 ? "" : " ").append(x.of(program, what));
        }
        return all.toString();
    }

    static String shares(RoomDealer x, int n) {
        StringBuilder all = new StringBuilder();
        for (int i = 0; i < n; i++) {
            all.append(i == 0 ? "" : " ").append(x.share(i));
        }
        return all.toString();
    }
}
