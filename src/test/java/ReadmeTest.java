import java.io.IOException;
import java.nio.file.Files;
import java.nio.file.Path;
import java.util.ArrayList;
import java.util.Iterator;
import java.util.List;
import java.util.Map;
import java.util.TreeMap;
import java.util.regex.Matcher;
import java.util.regex.Pattern;

/** The examples of README.md answer what they tell, and its tables of codes are those of the document. */
public final class ReadmeTest {
    private static final Checks checks = new Checks();
    private static final Pattern CODE =
        Pattern.compile("\\b(?:NO_SUCH|BAD_VALUE|NOT_POSSIBLE|LIMIT|BAD_TEXT|NONE)\\b");

    private final List<String> lines;
    private final Iterator<String> left;

    private ReadmeTest() throws IOException {
        lines = Files.readAllLines(Path.of("README.md"));
        left = lines.iterator();
    }

    public static void main(String[] args) throws IOException, IllegalAccessException, NoSuchFieldException {
        ReadmeTest readme = new ReadmeTest();
        readme.examples();
        readme.valuesOfCodes();
        readme.codesOfMethods();
        checks.finish();
    }

    private void examples() {
        ReplicaSessions store = new ReplicaSessions();
        int replica = store.addReplica(2, ReplicaSessions.NONE);
        example("int replica = store.addReplica(2, ReplicaSessions.NONE);", replica);
        int session = store.open(replica, ReplicaSessions.OWN, 5);
        example("int session = store.open(replica, ReplicaSessions.OWN, 5);", session);
        example("store.read(session, 3);", store.read(session, 3));
        example("store.write(session, 3, 42);", store.write(session, 3, 42));
        example("store.waitFor(session, 3, replica);", store.waitFor(session, 3, replica));
        example("store.read(session, 3);", store.read(session, 3));
        example("store.latest(2);", store.latest(2));
        example("store.write(session, 12, 42);", store.write(session, 12, 42));
        example("store.undo();", store.undo());
        example("store.latest(2);", store.latest(2));
        for (char character : "w0:3=43;t1;r0:3".toCharArray()) {
            store.append(character);
        }
        checks.holds("README.md has the text",
            lines.contains("for (char character : \"w0:3=43;t1;r0:3\".toCharArray()) {"));
        example("store.errorPosition();", store.errorPosition());
        example("store.execute();", store.execute());
    }

    /** The next line that begins with the call tells the answer behind it. */
    private void example(String call, int got) {
        while (left.hasNext()) {
            String line = left.next();
            if (line.startsWith(call)) {
                Matcher told = Pattern.compile(" *// (-?[0-9]+).*").matcher(line.substring(call.length()));
                checks.holds("the line " + line + " is right, not " + got,
                    told.matches() && Integer.parseInt(told.group(1)) == got);
                return;
            }
        }
        checks.holds("README.md has the line " + call, false);
    }

    private void valuesOfCodes() throws IllegalAccessException, NoSuchFieldException {
        int codes = 0;
        for (String line : lines) {
            Matcher row = Pattern.compile("\\| (-[0-9]) \\| `(\\w+)` \\|.*").matcher(line);
            if (row.matches()) {
                codes++;
                checks.holds("the row " + line,
                    ReplicaSessions.class.getField(row.group(2)).getInt(null) == Integer.parseInt(row.group(1)));
            }
        }
        checks.holds("five codes", codes == 5);
    }

    private void codesOfMethods() throws IOException {
        Map<String, List<String>> told = new TreeMap<>();
        for (String line : lines.subList(lines.indexOf("| methods | may return |") + 2, lines.size())) {
            if (!line.startsWith("|")) {
                break;
            }
            String[] cells = line.split("\\|");
            for (String method : cells[1].replace("`", "").trim().split(", ")) {
                checks.holds(method + " is told once", told.put(method, codesIn(cells[2])) == null);
            }
        }
        checks.holds("README.md tells of each method " + codesOfDocument() + ", not " + told,
            told.equals(codesOfDocument()));
    }

    /** The codes that the sentences "Returns .." tell, NONE behind the others. */
    private static Map<String, List<String>> codesOfDocument() throws IOException {
        Map<String, List<String>> due = new TreeMap<>();
        String document = Files.readString(Path.of("../shared/DOC.md"));
        String[] promises = document.split("## Not promised")[0].split("## Promise ");
        for (int i = 2; i < promises.length; i++) {
            StringBuilder returns = new StringBuilder();
            promises[i].lines().filter(line -> line.contains("Returns ")).forEach(returns::append);
            // There NONE is an argument, not an answer.
            String answers = returns.toString().replace("neither a place nor NONE", "");
            due.put(promises[i].lines().findFirst().orElse("").replaceAll("[0-9]+: ", ""), codesIn(answers));
        }
        return due;
    }

    private static List<String> codesIn(String text) {
        List<String> codes = new ArrayList<>();
        Matcher code = CODE.matcher(text);
        while (code.find()) {
            if (!codes.contains(code.group())) {
                codes.add(code.group());
            }
        }
        if (codes.remove("NONE")) {
            codes.add("NONE");
        }
        return codes;
    }
}
