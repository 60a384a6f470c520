import java.io.IOException;
import java.nio.file.Files;
import java.nio.file.Path;
import java.util.regex.Matcher;
import java.util.regex.Pattern;

/** The calls in README.md's examples, played in their order on one object, answer what stands behind them. */
public final class ReadmeTest {
    private static final Pattern ROW = Pattern.compile("^for \\(int b : new int\\[\\] \\{(.*)\\}\\) \\{$");
    private static final Pattern CALL = Pattern.compile("^desk\\.(\\w+)\\((.*)\\); +// (-?\\d+|true|false)?.*$");
    private static final Pattern HEX = Pattern.compile("0x([0-9A-F]{2})");

    public static void main(String[] args) throws IOException {
        StringBuilder run = new StringBuilder();
        boolean inside = false;
        for (String line : Files.readAllLines(Path.of("README.md"))) {
            if (line.startsWith("```")) {
                inside = line.equals("```java");
            } else if (inside) {
                run.append(wordOf(line)).append(' ');
            }
        }
        // A README whose examples are no longer found would otherwise pass.
        for (String call : new String[] {"row:30060201050601", "parse()=0", "intValue(1)=5", "putInt(-129)=0", "restart()"}) {
            Check.due("README.md has " + call, true, run.toString().contains(call));
        }
        Run.sentence("README.md", run.toString());
        Check.finish();
    }

    /** A line of an example as a word that Run reads; nothing for a line that only frames the calls. */
    private static String wordOf(String line) {
        Matcher row = ROW.matcher(line);
        if (row.matches()) {
            return "row:" + row.group(1).replaceAll("0x|, ", "");
        }
        Matcher call = CALL.matcher(line);
        if (!call.matches()) {
            return "";
        }
        String arguments = HEX.matcher(call.group(2).replace(" ", ""))
            .replaceAll(hex -> String.valueOf(Integer.parseInt(hex.group(1), 16)));
        return call.group(1) + "(" + arguments + ")" + (call.group(3) == null ? "" : "=" + call.group(3));
    }
}
