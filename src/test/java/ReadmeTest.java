import java.nio.file.Files;
import java.nio.file.Path;
import java.util.ArrayList;
import java.util.List;
import java.util.regex.Matcher;
import java.util.regex.Pattern;

/** The example of README.md: each call answers the number or word that stands behind it. */
public final class ReadmeTest {
    private static final Due due = new Due();
    private static final Pattern LINE = Pattern.compile("x\\.(\\w+)\\(([^)]*)\\);\\s*// (-?\\d+|true|false)\\b.*");

    public static void main(String[] args) throws Exception {
        String text = Files.readString(Path.of("README.md"));
        int from = text.indexOf("```java") + "```java".length();
        RoomDealer x = null;
        for (String line : text.substring(from, text.indexOf("```", from)).strip().split("\n")) {
            if (x == null) {
                due.same("the first line", line, "RoomDealer x = new RoomDealer();");
                x = new RoomDealer();
                continue;
            }
            Matcher m = LINE.matcher(line);
            due.is("'" + line + "' is a call with its answer", m.matches(), true);
            if (m.matches()) {
                due.same(line, answer(x, m.group(1), numbers(m.group(2))), m.group(3));
            }
        }
        due.end();
    }

    private static List<Integer> numbers(String text) {
        List<Integer> found = new ArrayList<>();
        for (String number : text.split(",")) {
            if (!number.isBlank()) {
                found.add(Integer.parseInt(number.strip()));
            }
        }
        return found;
    }

    private static String answer(RoomDealer x, String name, List<Integer> a) {
        return switch (name) {
            case "row" -> "" + x.row(a.get(0), a.get(1), a.get(2));
            case "write" -> "" + x.write(a.get(0), a.get(1), a.get(2));
            case "program" -> "" + x.program(a.get(0), a.get(1), a.get(2), a.get(3));
            case "time" -> "" + x.time(a.get(0), a.get(1));
            case "terms" -> "" + x.terms(a.get(0), a.get(1), a.get(2), a.get(3), a.get(4));
            case "deal" -> "" + x.deal();
            case "share" -> "" + x.share(a.get(0));
            case "begin" -> "" + x.begin();
            case "run" -> "" + x.run(a.get(0));
            case "of" -> "" + x.of(a.get(0), a.get(1));
            default -> "no such call here";
        };
    }
}
