import java.io.IOException;
import java.nio.file.Files;
import java.nio.file.Path;
import java.util.ArrayList;
import java.util.List;
import java.util.regex.Matcher;
import java.util.regex.Pattern;

/** The rows of calls that README.md shows answer, or throw, as it says there. */
public final class ReadmeTest {
    private static final Pattern CALL = Pattern.compile("x\\.(\\w+)\\((.*)\\); +// (.*)");
    private static final Pattern TEXT = Pattern.compile("tell\\(x, \"(.*)\"\\); +// (.*)");
    private static final Pattern DUE = Pattern.compile("(?:throws (\\w+)|(-?\\d+|true|false)(?:: .*)?)");

    private ReadmeTest() {
    }

    public static void main(String[] args) throws IOException {
        List<String> rows = new ArrayList<>();
        for (String line : Files.readAllLines(Path.of("README.md"))) {
            Matcher call = CALL.matcher(line);
            Matcher text = TEXT.matcher(line);
            if (call.matches()) {
                rows.add(call.group(1) + words(call.group(2)) + due(call.group(1), call.group(3)));
            } else if (text.matches()) {
                rows.add("tape: " + text.group(1));
                rows.add("net" + due("net", text.group(2)));
            } else if (line.startsWith("x.") || line.startsWith("tell(")) {
                throw new IllegalStateException("no row: " + line);
            }
        }
        if (rows.size() < 40) {
            throw new IllegalStateException("README.md shows too few rows: " + rows.size());
        }
        Script s = new Script();
        s.run("README.md", rows.toArray(new String[0]));
        s.finish();
    }

    private static String words(String args) {
        StringBuilder words = new StringBuilder();
        for (String arg : args.split(", *")) {
            words.append(arg.isEmpty() ? "" : " ").append(arg.startsWith("0x") ? String.valueOf(Integer.decode(arg)) : arg);
        }
        return words.toString();
    }

    /** What a row says behind the call; of a call that answers nothing it tells what it does. */
    private static String due(String name, String says) {
        if (name.equals("image") || name.equals("crash")) {
            return "";
        }
        Matcher due = DUE.matcher(says);
        if (!due.matches()) {
            throw new IllegalStateException("no answer: " + name + ": " + says);
        }
        return due.group(1) != null ? " ! " + due.group(1) : " = " + due.group(2);
    }
}
