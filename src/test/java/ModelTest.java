import java.util.ArrayList;
import java.util.List;
import java.util.Random;

/** Runs of calls, each answered by DerDesk and by PlainDesk; the random ones come from fixed seeds. */
public final class ModelTest {
    private static final int[] TAGS = {1, 2, 3, 4, 5, 6, 0x30};
    private static final int[] ODD = {-1, 0, 1, 7, 8, 39, 40, 79, 80, 127, 128, 129, 255, 256, 299, 300, 16384, -128, -129,
        32768, 8388608, Integer.MAX_VALUE, Integer.MIN_VALUE, 268435456, 0x30, 0x130};

    private static final int MOST_FED = 20;
    private static final int MOST_CALLS_AT_ONCE = MOST_FED + 2;

    public static void main(String[] args) {
        smallRows();
        for (int seed = 0; seed < 4000; seed++) {
            treeRows(new Random(seed));
        }
        for (int seed = 0; seed < 2500; seed++) {
            anyCalls(new Random(seed), seed % 3);
        }
        Check.finish();
    }

    /** Every row of up to five bytes that each rule, each length and each nesting has an edge in. */
    private static void smallRows() {
        int[] alphabet = {0, 1, 2, 3, 4, 5, 6, 7, 0x30, 0x7f, 0x80, 0x81, 0x82, 0xff};
        int rows = 1;
        for (int size = 0; size <= 5; size++) {
            for (int code = 0; code < rows; code++) {
                int[] row = new int[size];
                int rest = code;
                for (int i = 0; i < size; i++) {
                    row[i] = alphabet[rest % alphabet.length];
                    rest /= alphabet.length;
                }
                compareRow(row, false);
            }
            rows *= alphabet.length;
        }
    }

    private static void treeRows(Random random) {
        List<Integer> bytes = value(random, 0);
        if (bytes.size() > 300) {
            bytes = bytes.subList(0, 300);
        }
        int[] row = bytes.stream().mapToInt(Integer::intValue).toArray();
        compareRow(row, true);
        for (int spoiled = 0; spoiled < 8; spoiled++) {
            compareRow(spoil(random, row), false);
        }
    }

    private static int[] spoil(Random random, int[] row) {
        int[] copy = row.clone();
        int place = random.nextInt(copy.length);
        switch (random.nextInt(3)) {
            case 0:
                copy[place] = random.nextInt(256);
                return copy;
            case 1:
                return java.util.Arrays.copyOf(copy, place);
            default:
                copy[place] = random.nextBoolean() ? TAGS[random.nextInt(TAGS.length)] : copy[place] ^ 1 << random.nextInt(8);
                return copy;
        }
    }

    private static List<Integer> value(Random random, int depth) {
        int tag = depth < 17 && random.nextInt(10) < 6 ? 0x30 : TAGS[random.nextInt(TAGS.length)];
        List<Integer> contents = new ArrayList<>();
        if (tag == 0x30 && depth < 18) {
            int children = random.nextInt(20) == 0 ? 62 + random.nextInt(4) : random.nextInt(4);
            for (int i = 0; i < children; i++) {
                contents.addAll(children > 60 ? new ArrayList<>(List.of(5, 0)) : value(random, depth + 1));
            }
        } else if (tag != 5 && tag != 0x30) {
            fillPlain(random, tag, contents);
        }
        List<Integer> value = new ArrayList<>(List.of(tag));
        if (contents.size() < 128) {
            value.add(contents.size());
        } else if (contents.size() < 256) {
            value.addAll(List.of(0x81, contents.size()));
        } else {
            value.addAll(List.of(0x82, contents.size() / 256 & 0xFF, contents.size() % 256));
        }
        value.addAll(contents);
        return value;
    }

    private static void fillPlain(Random random, int tag, List<Integer> contents) {
        int size = random.nextInt(12) == 0 ? 100 + random.nextInt(190) : 1 + random.nextInt(6);
        if (tag == 1) {
            contents.add(random.nextBoolean() ? 0 : 255);
            return;
        }
        if (tag == 3) {
            contents.add(random.nextInt(8));
        }
        for (int i = 0; i < size; i++) {
            contents.add(random.nextInt(256));
        }
        int last = contents.size() - 1;
        if (tag == 3) {
            contents.set(last, contents.get(last) >> contents.get(0) << contents.get(0) & 0xFF);
        }
        if (tag == 6) {
            contents.set(last, contents.get(last) & 0x7F);
        }
    }

    /** Some of the nodes, or all of them; each object is asked about a few alone, for it is promised to work for 512 calls. */
    private static void compareRow(int[] row, boolean allNodes) {
        int nodes = compareNodes(row, 0, 4);
        for (int from = 4; allNodes && from < nodes; from += 16) {
            compareNodes(row, from, from + 16);
        }
    }

    private static int compareNodes(int[] row, int from, int to) {
        DerDesk desk = new DerDesk();
        PlainDesk plain = new PlainDesk();
        for (int b : row) {
            desk.feed(b);
            plain.feed(b);
        }
        String name = Check.hex(row);
        Check.due("parse() of " + name, plain.parse(), desk.parse());
        Check.due("offence() of " + name, plain.offence(), desk.offence());
        Check.due("nodeCount() of " + name, plain.nodeCount(), desk.nodeCount());
        for (int node = from; node < plain.nodeCount() && node < to; node++) {
            Check.due("tagOf(" + node + ") of " + name, plain.tagOf(node), desk.tagOf(node));
            Check.due("contentAt(" + node + ") of " + name, plain.contentAt(node), desk.contentAt(node));
            Check.due("contentLen(" + node + ") of " + name, plain.contentLen(node), desk.contentLen(node));
            Check.due("parent(" + node + ") of " + name, plain.parent(node), desk.parent(node));
            Check.due("intFits(" + node + ") of " + name, plain.intFits(node), desk.intFits(node));
            Check.due("intValue(" + node + ") of " + name, plain.intValue(node), desk.intValue(node));
            for (int k = -1; k < 5; k++) {
                Check.due("oidArc(" + node + ", " + k + ") of " + name, plain.oidArc(node, k), desk.oidArc(node, k));
            }
        }
        return plain.nodeCount();
    }

    /**
     * Calls of any kind; a leaning of 1 reads more than it writes, one of 2 writes more than it reads. A run ends before the
     * 512th call, up to which an object is promised to work.
     */
    private static void anyCalls(Random random, int leaning) {
        DerDesk desk = new DerDesk();
        PlainDesk plain = new PlainDesk();
        int calls = 0;
        while (calls < 512 - 2 * MOST_CALLS_AT_ONCE) {
            int kind = random.nextInt(22);
            if (leaning > 0 && random.nextInt(4) > 0) {
                kind = leaning == 1 ? random.nextInt(2) : 12 + random.nextInt(6);
            }
            boolean rare = kind == 11 || kind == 20;
            if (!rare || random.nextInt(12) == 0) {
                calls += kind == 1 ? feedValue(random, desk, plain) : oneCall(random, desk, plain, kind);
            }
        }
        for (int look = 0; look < MOST_CALLS_AT_ONCE; look++) {
            int i = random.nextInt(plain.outSize() + 1);
            Check.due("out(" + i + ")", plain.out(i), desk.out(i));
        }
    }

    private static int argument(Random random) {
        return random.nextInt(3) == 0 ? ODD[random.nextInt(ODD.length)] : random.nextInt(256);
    }

    private static int node(Random random) {
        return random.nextInt(8) == 0 ? argument(random) : random.nextInt(4);
    }

    private static int tag(Random random) {
        return random.nextInt(8) == 0 ? argument(random) : random.nextInt(3) == 0 ? 0x30 : TAGS[random.nextInt(TAGS.length)];
    }

    /** Tells how many calls it has made, at most. */
    private static int oneCall(Random random, DerDesk desk, PlainDesk plain, int kind) {
        int v = argument(random);
        int node = node(random);
        int tag = tag(random);
        int any = random.nextInt();
        switch (kind) {
            case 0 -> Check.due("feed(" + tag + ")", plain.feed(tag), desk.feed(tag));
            case 2 -> Check.due("parse()", plain.parse(), desk.parse());
            case 3 -> Check.due("offence()", plain.offence(), desk.offence());
            case 4 -> Check.due("nodeCount()", plain.nodeCount(), desk.nodeCount());
            case 5 -> Check.due("tagOf(" + node + ")", plain.tagOf(node), desk.tagOf(node));
            case 6 -> Check.due("contentAt(" + node + ")", plain.contentAt(node), desk.contentAt(node));
            case 7 -> Check.due("contentLen(" + node + ")", plain.contentLen(node), desk.contentLen(node));
            case 8 -> Check.due("parent(" + node + ")", plain.parent(node), desk.parent(node));
            case 9 -> Check.due("oidArc(" + node + ", " + (v & 7) + ")", plain.oidArc(node, v & 7), desk.oidArc(node, v & 7));
            case 10 -> Check.due("intFits(" + node + ")", plain.intFits(node), desk.intFits(node));
            case 11 -> {
                desk.wipe();
                plain.wipe();
            }
            case 12 -> Check.due("begin(" + tag + ")", plain.begin(tag), desk.begin(tag));
            case 13 -> Check.due("putByte(" + v + ")", plain.putByte(v), desk.putByte(v));
            case 14 -> Check.due("putInt(" + (any >> (v & 31)) + ")", plain.putInt(any >> (v & 31)), desk.putInt(any >> (v & 31)));
            case 15 -> Check.due("putPart(" + (any >> (v & 31)) + ")", plain.putPart(any >> (v & 31)), desk.putPart(any >> (v & 31)));
            case 16 -> Check.due("putByte(0)", plain.putByte(0), desk.putByte(0));
            case 17 -> {
                if (random.nextInt(4) == 0) {
                    Check.due("end()", plain.end(), desk.end());
                }
            }
            case 18 -> Check.due("out(" + v + ")", plain.out(v), desk.out(v));
            case 19 -> Check.due("outSize()", plain.outSize(), desk.outSize());
            case 20 -> {
                desk.restart();
                plain.restart();
            }
            default -> {
                Check.due("depth()", plain.depth(), desk.depth());
                Check.due("intValue(" + node + ")", plain.intValue(node), desk.intValue(node));
            }
        }
        return kind == 21 ? 2 : 1;
    }

    /** A wipe perhaps, up to MOST_FED bytes of a value, and a parse perhaps; tells how many calls it has made, at most. */
    private static int feedValue(Random random, DerDesk desk, PlainDesk plain) {
        List<Integer> value = value(random, 14);
        if (random.nextInt(3) == 0) {
            desk.wipe();
            plain.wipe();
        }
        List<Integer> fed = value.subList(0, Math.min(value.size(), MOST_FED));
        for (int b : fed) {
            Check.due("feed(" + b + ")", plain.feed(b), desk.feed(b));
        }
        if (random.nextInt(3) > 0) {
            Check.due("parse()", plain.parse(), desk.parse());
        }
        return fed.size() + 2;
    }
}
