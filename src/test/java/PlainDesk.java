import java.math.BigInteger;
import java.util.ArrayList;
import java.util.List;

/**
 * The document once more, written another way so that it does not share DerDesk's slips: the reader goes down by
 * recursion, numbers are BigIntegers, and the writer keeps a list of contents for each open value.
 */
final class PlainDesk {
    private record Offence(int code, int place) { }

    private record Node(int tag, int start, int length, int parent) { }

    private static final List<Integer> IDENTIFIERS = List.of(1, 2, 3, 4, 5, 6, 0x30);

    private final List<Integer> row = new ArrayList<>();
    private List<Node> tree = new ArrayList<>();
    private int offence = -1;

    private final List<List<Integer>> open = new ArrayList<>();
    private List<Integer> closedRoot = null;

    int feed(int b) {
        if (b < 0 || b > 255) {
            return -1;
        }
        if (row.size() == 300) {
            return -3;
        }
        row.add(b);
        tree = new ArrayList<>();
        return 0;
    }

    int parse() {
        List<Node> found = new ArrayList<>();
        Offence first = readRoot(found);
        tree = first == null ? found : new ArrayList<>();
        offence = first == null ? -1 : first.place;
        return first == null ? 0 : first.code;
    }

    private Offence readRoot(List<Node> found) {
        if (row.isEmpty()) {
            return new Offence(-1, 0);
        }
        Offence inside = readValue(found, 0, row.size(), -1, 0);
        if (inside != null) {
            return inside;
        }
        Node root = found.get(0);
        int end = root.start + root.length;
        return end == row.size() ? null : new Offence(-6, end);
    }

    private Offence readValue(List<Node> found, int place, int limit, int parent, int around) {
        int tag = row.get(place);
        if (!IDENTIFIERS.contains(tag)) {
            return new Offence(-2, place);
        }
        if (found.size() == 64 || around == 16) {
            return new Offence(-7, place);
        }
        Offence cut = around == 0 ? new Offence(-1, row.size()) : new Offence(-4, place);
        if (place + 1 == limit) {
            return cut;
        }
        int lead = row.get(place + 1);
        if (lead == 0x80 || lead >= 0x83) {
            return new Offence(-3, place + 1);
        }
        int more = Math.max(0, lead - 0x80);
        if (place + 1 + more >= limit) {
            return cut;
        }
        int length = lead;
        if (lead == 0x81) {
            length = row.get(place + 2);
        } else if (lead == 0x82) {
            length = 256 * row.get(place + 2) + row.get(place + 3);
        }
        if (!row.subList(place + 1, place + 2 + more).equals(lengthBytes(length))) {
            return new Offence(-3, place + 1);
        }
        int start = place + 2 + more;
        if (start + length > limit) {
            return new Offence(-4, place);
        }
        if (!rule(tag, row.subList(start, start + length))) {
            return new Offence(-5, place);
        }
        int node = found.size();
        found.add(new Node(tag, start, length, parent));
        int next = start;
        while (tag == 0x30 && next < start + length) {
            int child = found.size();
            Offence inside = readValue(found, next, start + length, node, around + 1);
            if (inside != null) {
                return inside;
            }
            next = found.get(child).start + found.get(child).length;
        }
        return null;
    }

    private static List<Integer> lengthBytes(int length) {
        if (length < 128) {
            return List.of(length);
        }
        return length < 256 ? List.of(0x81, length) : List.of(0x82, length / 256, length % 256);
    }

    private static boolean rule(int tag, List<Integer> contents) {
        int size = contents.size();
        switch (tag) {
            case 1:
                return contents.equals(List.of(0)) || contents.equals(List.of(255));
            case 2:
                return size > 0 && contents.equals(shortest(number(contents)));
            case 3:
                if (size == 0 || contents.get(0) > 7) {
                    return false;
                }
                return size == 1 ? contents.get(0) == 0 : contents.get(size - 1) % (1 << contents.get(0)) == 0;
            case 5:
                return size == 0;
            case 6:
                return size > 0 && parts(contents) != null;
            default:
                return true;
        }
    }

    private static BigInteger number(List<Integer> contents) {
        byte[] bytes = new byte[contents.size()];
        for (int i = 0; i < bytes.length; i++) {
            bytes[i] = contents.get(i).byteValue();
        }
        return new BigInteger(bytes);
    }

    private static List<Integer> shortest(BigInteger number) {
        List<Integer> bytes = new ArrayList<>();
        for (byte b : number.toByteArray()) {
            bytes.add(b & 0xFF);
        }
        return bytes;
    }

    private static List<BigInteger> parts(List<Integer> contents) {
        List<BigInteger> parts = new ArrayList<>();
        int i = 0;
        while (i < contents.size()) {
            if (contents.get(i) == 0x80) {
                return null;
            }
            BigInteger part = BigInteger.ZERO;
            while (i < contents.size() && contents.get(i) > 127) {
                part = part.multiply(BigInteger.valueOf(128)).add(BigInteger.valueOf(contents.get(i) - 128));
                i++;
            }
            if (i == contents.size()) {
                return null;
            }
            parts.add(part.multiply(BigInteger.valueOf(128)).add(BigInteger.valueOf(contents.get(i))));
            i++;
        }
        return parts;
    }

    int offence() {
        return offence;
    }

    int nodeCount() {
        return tree.size();
    }

    private Node node(int node) {
        return node >= 0 && node < tree.size() ? tree.get(node) : new Node(-1, -1, -1, -1);
    }

    private List<Integer> contents(Node node) {
        return row.subList(node.start, node.start + node.length);
    }

    int tagOf(int node) {
        return node(node).tag;
    }

    int contentAt(int node) {
        return node(node).start;
    }

    int contentLen(int node) {
        return node(node).length;
    }

    int parent(int node) {
        return node(node).parent;
    }

    int oidArc(int node, int k) {
        if (node(node).tag != 6) {
            return -1;
        }
        List<BigInteger> arcs = parts(contents(node(node)));
        BigInteger first = arcs.get(0);
        int root = first.compareTo(BigInteger.valueOf(40)) < 0 ? 0 : first.compareTo(BigInteger.valueOf(80)) < 0 ? 1 : 2;
        arcs.set(0, first.subtract(BigInteger.valueOf(40L * root)));
        arcs.add(0, BigInteger.valueOf(root));
        if (k < 0 || k >= arcs.size()) {
            return -1;
        }
        return arcs.get(k).bitLength() > 31 ? -2 : arcs.get(k).intValue();
    }

    boolean intFits(int node) {
        return node(node).tag == 2 && node(node).length <= 4;
    }

    int intValue(int node) {
        return intFits(node) ? number(contents(node(node))).intValueExact() : 0;
    }

    void wipe() {
        row.clear();
        tree = new ArrayList<>();
    }

    // An open value is its identifier and what is within so far; values that are closed are within the one around.
    private List<Integer> output() {
        if (closedRoot != null) {
            return closedRoot;
        }
        List<Integer> bytes = new ArrayList<>();
        for (List<Integer> value : open) {
            bytes.addAll(value);
        }
        return bytes;
    }

    private List<Integer> innermost() {
        return open.get(open.size() - 1);
    }

    private int openTag() {
        return open.isEmpty() ? -1 : innermost().get(0);
    }

    int begin(int tag) {
        if (!IDENTIFIERS.contains(tag)) {
            return -1;
        }
        if (closedRoot != null || !open.isEmpty() && openTag() != 0x30) {
            return -2;
        }
        if (open.size() == 16 || outSize() == 300) {
            return -3;
        }
        open.add(new ArrayList<>(List.of(tag)));
        return 0;
    }

    int putByte(int b) {
        if (b < 0 || b > 255) {
            return -1;
        }
        return open.isEmpty() || openTag() == 0x30 ? -2 : put(List.of(b));
    }

    int putInt(int v) {
        return openTag() != 2 || innermost().size() > 1 ? -2 : put(shortest(BigInteger.valueOf(v)));
    }

    int putPart(int v) {
        if (v < 0) {
            return -1;
        }
        List<Integer> part = new ArrayList<>(List.of(v % 128));
        for (int rest = v / 128; rest > 0; rest /= 128) {
            part.add(0, 128 + rest % 128);
        }
        return openTag() != 6 ? -2 : put(part);
    }

    private int put(List<Integer> bytes) {
        if (outSize() + bytes.size() > 300) {
            return -3;
        }
        innermost().addAll(bytes);
        return 0;
    }

    int end() {
        if (open.isEmpty()) {
            return -2;
        }
        List<Integer> value = innermost();
        List<Integer> contents = value.subList(1, value.size());
        if (!rule(value.get(0), contents)) {
            open.remove(open.size() - 1);
            return -4;
        }
        List<Integer> length = lengthBytes(contents.size());
        if (outSize() + length.size() > 300) {
            return -3;
        }
        value.addAll(1, length);
        open.remove(open.size() - 1);
        if (open.isEmpty()) {
            closedRoot = value;
        } else {
            innermost().addAll(value);
        }
        return 0;
    }

    int out(int i) {
        List<Integer> bytes = output();
        return i >= 0 && i < bytes.size() ? bytes.get(i) : -1;
    }

    int outSize() {
        return output().size();
    }

    int depth() {
        return open.size();
    }

    void restart() {
        open.clear();
        closedRoot = null;
    }
}
