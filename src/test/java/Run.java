import java.util.regex.Matcher;
import java.util.regex.Pattern;

/**
 * A run of calls on one new object, written as text with the answer that is due behind each call, and looked at word by
 * word: {@code feed(5)=0 feed(0)=0 parse()=0 wipe()}. Three words stand for many calls: {@code row:0500} feeds bytes,
 * {@code put:0aff} puts them into the open value, {@code out:0500} looks at the whole output.
 */
final class Run {
    // The document promises nothing about an object behind this many calls, so no test may lean on it.
    private static final int MAX_CALLS = 512;
    private static final Pattern CALL = Pattern.compile("(\\w+)\\((-?\\d*),?(-?\\d*)\\)(?:=(-?\\d+|true|false))?");

    private final String sentence;
    private final DerDesk desk = new DerDesk();
    private int calls = 0;

    private Run(String sentence) {
        this.sentence = sentence;
    }

    /** One sentence of the document, and the runs that would go otherwise if it were broken. */
    static void sentence(String sentence, String... runs) {
        for (String run : runs) {
            new Run(sentence).go(run);
        }
    }

    private void go(String run) {
        for (String word : run.trim().split("\\s+")) {
            if (word.startsWith("row:")) {
                for (int b : Check.bytes(word.substring(4))) {
                    due("feed(" + b + ")", 0, desk.feed(b));
                }
            } else if (word.startsWith("put:")) {
                for (int b : Check.bytes(word.substring(4))) {
                    due("putByte(" + b + ")", 0, desk.putByte(b));
                }
            } else if (word.startsWith("out:")) {
                output(Check.bytes(word.substring(4)));
            } else {
                call(word);
            }
        }
        Check.due(sentence + ": a run of at most " + MAX_CALLS + " calls", true, calls <= MAX_CALLS);
    }

    private void output(int[] bytes) {
        due("outSize()", bytes.length, desk.outSize());
        for (int i = 0; i < bytes.length; i++) {
            due("out(" + i + ")", bytes[i], desk.out(i));
        }
        due("out(" + bytes.length + ")", -1, desk.out(bytes.length));
    }

    private void due(String call, long want, long got) {
        calls++;
        Check.due(sentence + ": call " + calls + ", " + call, want, got);
    }

    private void call(String word) {
        Matcher parts = CALL.matcher(word);
        if (!parts.matches()) {
            throw new IllegalArgumentException("no call: " + word);
        }
        String name = parts.group(1);
        if (name.equals("wipe") || name.equals("restart")) {
            calls++;
            clear(name);
            return;
        }
        if (name.equals("intFits")) {
            due(word, Boolean.parseBoolean(parts.group(4)) ? 1 : 0, desk.intFits(number(parts.group(2))) ? 1 : 0);
            return;
        }
        due(word, Long.parseLong(parts.group(4)), answer(name, number(parts.group(2)), number(parts.group(3))));
    }

    private static int number(String digits) {
        return digits.isEmpty() ? 0 : Integer.parseInt(digits);
    }

    private void clear(String name) {
        if (name.equals("wipe")) {
            desk.wipe();
        } else {
            desk.restart();
        }
    }

    private int answer(String name, int first, int second) {
        return switch (name) {
            case "feed" -> desk.feed(first);
            case "parse" -> desk.parse();
            case "offence" -> desk.offence();
            case "nodeCount" -> desk.nodeCount();
            case "tagOf" -> desk.tagOf(first);
            case "contentAt" -> desk.contentAt(first);
            case "contentLen" -> desk.contentLen(first);
            case "parent" -> desk.parent(first);
            case "oidArc" -> desk.oidArc(first, second);
            case "intValue" -> desk.intValue(first);
            case "begin" -> desk.begin(first);
            case "putByte" -> desk.putByte(first);
            case "putInt" -> desk.putInt(first);
            case "putPart" -> desk.putPart(first);
            case "end" -> desk.end();
            case "out" -> desk.out(first);
            case "outSize" -> desk.outSize();
            case "depth" -> desk.depth();
            default -> throw new IllegalArgumentException("no call: " + name);
        };
    }
}
