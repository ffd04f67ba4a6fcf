import java.lang.reflect.Constructor;
import java.lang.reflect.Field;
import java.lang.reflect.Method;
import java.lang.reflect.Modifier;
import java.nio.file.Files;
import java.nio.file.Path;
import java.util.Set;
import java.util.TreeSet;
import java.util.regex.Pattern;

/** The public face, the rules of the language that a text shows, and wrong arguments everywhere. */
public final class RulesTest {
    private static final Due due = new Due();
    private static final int[] ODD = {
        Integer.MIN_VALUE, Integer.MIN_VALUE + 1, -1201, -60, -59, -3, -1, 0, 1, 2, 3, 4, 5, 6, 7, 8, 12, 13,
        40, 41, 59, 60, 61, 64, 65, 99, 100, 256, 1000, 1001, 1200, 2000, 2001, 4096, 4097,
        Integer.MAX_VALUE - 1, Integer.MAX_VALUE,
    };
    private static final int[] MILD = {0, 0, 0, 1, 1, 2, 3, 4, 8, 1004, -1, 64};
    private static long state = 1;

    public static void main(String[] args) throws Exception {
        face();
        sizes();
        noReferenceIsNull();
        text();
        noCallThrows();
        due.end();
    }

    private static void face() {
        Set<String> want = new TreeSet<>(Set.of(
                "int row(int int int)", "boolean tear(int)", "int write(int int long)",
                "int paste(int int int int int)", "int terms(int int int int int)",
                "int program(int int int int)", "int clear()", "int time(int int)", "int need(int)",
                "int falls(int)", "int deal()", "int best()", "int share(int)", "boolean begin()",
                "boolean stop()", "int run(int)", "int of(int int)", "int count(int)", "int log(int int)"));
        want.add("NONE");
        want.add("new 0");
        Set<String> found = new TreeSet<>();
        for (Method m : RoomDealer.class.getDeclaredMethods()) {
            if (!Modifier.isPrivate(m.getModifiers())) {
                StringBuilder types = new StringBuilder();
                for (Class<?> type : m.getParameterTypes()) {
                    types.append(types.length() == 0 ? "" : " ").append(type.getName());
                }
                due.is(m.getName() + " is public", Modifier.isPublic(m.getModifiers()), true);
                due.is(m.getName() + " is no static one", Modifier.isStatic(m.getModifiers()), false);
                found.add(m.getReturnType().getName() + " " + m.getName() + "(" + types + ")");
            }
        }
        for (Field f : RoomDealer.class.getDeclaredFields()) {
            if (!Modifier.isPrivate(f.getModifiers())) {
                found.add(f.getName());
            }
        }
        for (Constructor<?> c : RoomDealer.class.getDeclaredConstructors()) {
            found.add("new " + c.getParameterCount());
        }
        due.same("the face", found.toString(), want.toString());
        due.is("the class is final", Modifier.isFinal(RoomDealer.class.getModifiers()), true);
        for (Class<?> c : RoomDealer.class.getDeclaredClasses()) {
            due.is(c.getName() + " is static", Modifier.isStatic(c.getModifiers()), true);
            for (Field f : c.getDeclaredFields()) {
                boolean still = !Modifier.isStatic(f.getModifiers()) || Modifier.isFinal(f.getModifiers());
                due.is(c.getName() + "." + f.getName() + " is no changing static one", still, true);
            }
        }
    }

    /** Rules 1 and 11. */
    private static void sizes() {
        Set<String> open = new TreeSet<>();
        for (Method m : RoomDealer.class.getDeclaredMethods()) {
            if (Modifier.isPublic(m.getModifiers())) {
                open.add(m.getName());
            }
        }
        due.is("twelve classes at most", RoomDealer.class.getDeclaredClasses().length < 12, true);
        sizesOf(RoomDealer.class, open);
        for (Class<?> c : RoomDealer.class.getDeclaredClasses()) {
            sizesOf(c, open);
        }
    }

    private static void sizesOf(Class<?> c, Set<String> open) {
        for (Method m : c.getDeclaredMethods()) {
            String name = c.getName() + "." + m.getName();
            due.is(name + " has seven parameters at most", m.getParameterCount() <= 7, true);
            boolean hidden = Modifier.isPrivate(m.getModifiers());
            due.is(name + " has a name of its own", !hidden || !open.contains(m.getName()), true);
        }
        int fields = 0;
        for (Field f : c.getDeclaredFields()) {
            fields += Modifier.isStatic(f.getModifiers()) ? 0 : 1;
        }
        due.is(c.getName() + " has twenty fields at most", fields <= 20, true);
    }

    /** Rule 7: a reference that is set for good, as its object is made, need not be looked at again. */
    private static void noReferenceIsNull() throws Exception {
        RoomDealer x = new RoomDealer();
        referencesOf(RoomDealer.class);
        for (Class<?> c : RoomDealer.class.getDeclaredClasses()) {
            referencesOf(c);
        }
        due.is("references that a new object has as null", nullsIn(x, 0), 0);
    }

    private static void referencesOf(Class<?> c) {
        for (Field f : c.getDeclaredFields()) {
            boolean still = f.getType().isPrimitive() || Modifier.isFinal(f.getModifiers());
            due.is(c.getName() + "." + f.getName() + " is set for good", still, true);
        }
    }

    private static int nullsIn(Object o, int depth) throws Exception {
        if (o == null) {
            return 1;
        }
        due.is("parts of parts have an end", depth <= 8, true);
        int nulls = 0;
        if (o instanceof Object[] row) {
            for (Object part : row) {
                nulls += nullsIn(part, depth + 1);
            }
        } else if (!o.getClass().isArray()) {
            for (Field f : o.getClass().getDeclaredFields()) {
                if (!f.getType().isPrimitive()) {
                    f.setAccessible(true);
                    nulls += nullsIn(f.get(o), depth + 1);
                }
            }
        }
        return nulls;
    }

    private static void text() throws Exception {
        String code = Files.readString(Path.of("src/main/java/RoomDealer.java"))
                .replaceAll("(?s)/\\*.*?\\*/", " ").replaceAll("//[^\n]*", " ");
        String[] ruledOut = {
            "\\bthrow", "\\btry\\b", "\\bcatch\\b", "\\bsynchronized\\b", "\\bassert\\b", "\\bpackage\\b",
            "\\bimport\\s+(?!java\\.util\\.(ArrayList|List|Arrays|Iterator);)", "::", "Exact\\b",
            "\\bstatic\\s*\\{", "\\bThread\\b", "\\bRandom\\b", "nanoTime", "currentTimeMillis", "\\bException\\b",
            "\\)\\s*->", "\\bhashCode\\b",
        };
        for (String rule : ruledOut) {
            due.is("'" + rule + "' in the text", Pattern.compile(rule).matcher(code).find(), false);
        }
    }

    private static int pick(int[] from) {
        state = state * 6364136223846793005L + 1442695040888963407L;
        return from[(int) ((state >>> 33) % from.length)];
    }

    private static int pick(int n) {
        state = state * 6364136223846793005L + 1442695040888963407L;
        return (int) ((state >>> 33) % n);
    }

    private static void noCallThrows() {
        int thrown = 0;
        for (int seed = 1; seed <= 1500; seed++) {
            state = seed * 104729L;
            RoomDealer x = new RoomDealer();
            int[] from = seed % 3 == 0 ? ODD : MILD;
            try {
                for (int call = 0; call < 512; call++) {
                    anyCall(x, pick(19), pick(12) == 0 ? ODD : from);
                }
            } catch (RuntimeException e) {
                thrown++;
                System.out.println("seed " + seed + " threw " + e);
            }
        }
        due.is("calls that threw", thrown, 0);
    }

    private static void anyCall(RoomDealer x, int which, int[] from) {
        switch (which) {
            case 0 -> x.row(pick(from), pick(from), pick(from));
            case 1 -> x.tear(pick(from));
            case 2 -> x.write(pick(from), pick(from), pick(from) * (pick(3) == 0 ? 4294967295L : 1L));
            case 3 -> x.paste(pick(from), pick(from), pick(from), pick(from), pick(from));
            case 4 -> x.terms(pick(from), pick(from), pick(from), pick(from), pick(from));
            case 5 -> x.program(pick(from), pick(from), pick(from), pick(from));
            case 6 -> {
                if (pick(6) == 0) {
                    x.clear();
                }
            }
            case 7 -> x.time(pick(from), pick(from));
            case 8 -> x.need(pick(from));
            case 9 -> x.falls(pick(from));
            case 10 -> x.deal();
            case 11 -> x.best();
            case 12 -> x.share(pick(from));
            case 13 -> x.begin();
            case 14 -> x.stop();
            case 15 -> x.run(pick(from));
            case 16 -> x.of(pick(from), pick(from));
            case 17 -> x.count(pick(from));
            default -> x.log(pick(from), pick(from));
        }
    }
}
