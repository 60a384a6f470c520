/**
 * Values within values as bytes, each told in one way alone (DER): a reader that tells the first
 * offence or the tree, and a writer that fixes lengths when values are closed.
 *
 * <p>The two halves share the rules for contents and nothing else, so each is a class of its own.
 */
public final class DerDesk {
    public static final int NONE = -1;

    private static final int BOOLEAN = 0x01;
    private static final int INTEGER = 0x02;
    private static final int BITS = 0x03;
    private static final int OCTETS = 0x04;
    private static final int NULL = 0x05;
    private static final int OBJECT = 0x06;
    private static final int SEQUENCE = 0x30;

    private static final int MAX_BYTES = 300;
    private static final int MAX_NODES = 64;
    private static final int MAX_DEPTH = 16;

    private final Reader reader = new Reader();
    private final Writer writer = new Writer();

    public DerDesk() {
    }

    public int feed(int b) {
        return reader.addByte(b);
    }

    public int parse() {
        return reader.readRow();
    }

    public int offence() {
        return reader.offencePlace;
    }

    public int nodeCount() {
        return reader.nodes;
    }

    public int tagOf(int node) {
        return reader.ofNode(reader.tags, node);
    }

    public int contentAt(int node) {
        return reader.ofNode(reader.starts, node);
    }

    public int contentLen(int node) {
        return reader.ofNode(reader.lengths, node);
    }

    public int parent(int node) {
        return reader.ofNode(reader.parents, node);
    }

    public int oidArc(int node, int k) {
        return reader.arcOf(node, k);
    }

    public boolean intFits(int node) {
        return reader.isSmallInteger(node);
    }

    public int intValue(int node) {
        return reader.smallInteger(node);
    }

    public void wipe() {
        reader.clear();
    }

    public int begin(int tag) {
        return writer.open(tag);
    }

    public int putByte(int b) {
        return writer.addByte(b);
    }

    public int putInt(int v) {
        return writer.addInteger(v);
    }

    public int putPart(int v) {
        return writer.addPart(v);
    }

    public int end() {
        return writer.close();
    }

    public int out(int i) {
        return writer.byteAt(i);
    }

    public int outSize() {
        return writer.size;
    }

    public int depth() {
        return writer.depth;
    }

    public void restart() {
        writer.clear();
    }

    /** What the reader and the writer both ask of bytes, identifiers, lengths and contents. */
    private static final class Rules {
        private Rules() {
        }

        static boolean isByte(int b) {
            return b >= 0 && b <= 0xFF;
        }

        static boolean isIdentifier(int tag) {
            return tag >= BOOLEAN && tag <= OBJECT || tag == SEQUENCE;
        }

        /** How many bytes the shortest LENGTH has that tells this length. */
        static int lengthSize(int length) {
            if (length < 0x80) {
                return 1;
            }
            return length < 0x100 ? 2 : 3;
        }

        /** Whether contents keep to the rule of their identifier; the place and the length lie within the bytes. */
        static boolean hold(int tag, int[] bytes, int start, int length) {
            switch (tag) {
                case BOOLEAN:
                    return length == 1 && (bytes[start] == 0 || bytes[start] == 0xFF);
                case INTEGER:
                    return isRightInteger(bytes, start, length);
                case BITS:
                    return isRightBits(bytes, start, length);
                case NULL:
                    return length == 0;
                case OBJECT:
                    return isRightObject(bytes, start, length);
                case OCTETS:
                default:
                    // A SEQUENCE, too: it is looked at value by value.
                    return true;
            }
        }

        private static boolean isRightInteger(int[] bytes, int start, int length) {
            if (length < 2) {
                return length == 1;
            }
            boolean nextIsHigh = bytes[start + 1] >= 0x80;
            return bytes[start] != (nextIsHigh ? 0xFF : 0);
        }

        private static boolean isRightBits(int[] bytes, int start, int length) {
            if (length < 1) {
                return false;
            }
            int unused = bytes[start];
            if (length == 1 || unused > 7) {
                return unused == 0;
            }
            int unusedMask = (1 << unused) - 1;
            return (bytes[start + length - 1] & unusedMask) == 0;
        }

        private static boolean isRightObject(int[] bytes, int start, int length) {
            boolean partBegins = true;
            for (int i = start; i < start + length; i++) {
                if (partBegins && bytes[i] == 0x80) {
                    return false;
                }
                partBegins = bytes[i] < 0x80;
            }
            return length > 0 && partBegins;
        }
    }

    /** The row and its tree. */
    private static final class Reader {
        private static final int ROW_ENDS = -1;
        private static final int BAD_IDENTIFIER = -2;
        private static final int BAD_LENGTH = -3;
        private static final int GOES_BEYOND = -4;
        private static final int BAD_CONTENTS = -5;
        private static final int BYTES_BEHIND = -6;
        private static final int TOO_MUCH = -7;

        private static final int LARGEST_ARC = 2147483647;

        // Far above every arc that fits, and far below where seven bits more would leave a long.
        private static final long HUGE_PART = 1L << 40;

        private final int[] row = new int[MAX_BYTES];
        private int rowSize = 0;

        private final int[] tags = new int[MAX_NODES];
        private final int[] starts = new int[MAX_NODES];
        private final int[] lengths = new int[MAX_NODES];
        private final int[] parents = new int[MAX_NODES];
        private int nodes = 0;

        // While the row is read: the SEQUENCEs around the place that has been reached, the outermost first.
        private final int[] around = new int[MAX_DEPTH];
        private int level = 0;

        private int offencePlace = NONE;

        int addByte(int b) {
            if (!Rules.isByte(b)) {
                return -1;
            }
            if (rowSize >= MAX_BYTES) {
                return -3;
            }
            row[rowSize] = b;
            rowSize++;
            nodes = 0;
            return 0;
        }

        // The place of the offence stays: it belongs to the latest parse, not to the row.
        void clear() {
            rowSize = 0;
            nodes = 0;
        }

        int readRow() {
            nodes = 0;
            level = 0;
            offencePlace = NONE;
            int code = readValues();
            if (code != 0) {
                nodes = 0;
            }
            return code;
        }

        private int readValues() {
            int place = 0;
            for (int value = 0; value <= MAX_NODES; value++) {
                int code = readValue(place);
                if (code != 0) {
                    return code;
                }
                place = goOnFrom(nodes - 1);
                leaveSequencesThatEndAt(place);
                if (level == 0) {
                    return place < rowSize ? offend(BYTES_BEHIND, place) : 0;
                }
            }
            return offend(TOO_MUCH, place);
        }

        /** One value is read and becomes the newest node; of a SEQUENCE without what is within. */
        private int readValue(int place) {
            int code = readIdentifier(place);
            if (code == 0) {
                code = readLength(place);
            }
            if (code == 0) {
                code = checkContents(place);
            }
            if (code == 0) {
                nodes++;
            }
            return code;
        }

        private int readIdentifier(int place) {
            if (place >= rowSize) {
                return offend(ROW_ENDS, rowSize);
            }
            if (!Rules.isIdentifier(row[place])) {
                return offend(BAD_IDENTIFIER, place);
            }
            if (nodes >= MAX_NODES || level >= MAX_DEPTH) {
                return offend(TOO_MUCH, place);
            }
            tags[nodes] = row[place];
            parents[nodes] = level == 0 ? NONE : around[level - 1];
            return 0;
        }

        private int readLength(int place) {
            int first = place + 1;
            int limit = limitHere();
            if (first >= limit) {
                return offendByCutLength(place);
            }
            int lead = row[first];
            if (lead == 0x80 || lead > 0x82) {
                return offend(BAD_LENGTH, first);
            }
            int more = lead < 0x80 ? 0 : lead - 0x80;
            if (first + more >= limit) {
                return offendByCutLength(place);
            }
            int length = more == 0 ? lead : numberAt(first + 1, more);
            if (Rules.lengthSize(length) != 1 + more) {
                return offend(BAD_LENGTH, first);
            }
            starts[nodes] = first + more + 1;
            lengths[nodes] = length;
            return 0;
        }

        private int checkContents(int place) {
            int start = starts[nodes];
            int length = lengths[nodes];
            if (length > limitHere() - start) {
                return offend(GOES_BEYOND, place);
            }
            return Rules.hold(tags[nodes], row, start, length) ? 0 : offend(BAD_CONTENTS, place);
        }

        /** Tells where reading goes on: behind a plain value, but within a SEQUENCE, which is entered. */
        private int goOnFrom(int node) {
            if (tags[node] != SEQUENCE) {
                return endOf(node);
            }
            around[level] = node;
            level++;
            return starts[node];
        }

        private void leaveSequencesThatEndAt(int place) {
            while (level > 0 && endOf(around[level - 1]) == place) {
                level--;
            }
        }

        private int limitHere() {
            return level == 0 ? rowSize : endOf(around[level - 1]);
        }

        private int endOf(int node) {
            return starts[node] + lengths[node];
        }

        private int numberAt(int place, int count) {
            int number = 0;
            for (int i = 0; i < count; i++) {
                number = number << 8 | row[place + i];
            }
            return number;
        }

        private int offendByCutLength(int place) {
            return level == 0 ? offend(ROW_ENDS, rowSize) : offend(GOES_BEYOND, place);
        }

        private int offend(int code, int place) {
            offencePlace = place;
            return code;
        }

        private boolean isNode(int node) {
            return node >= 0 && node < nodes;
        }

        int ofNode(int[] facts, int node) {
            return isNode(node) ? facts[node] : NONE;
        }

        boolean isSmallInteger(int node) {
            return isNode(node) && tags[node] == INTEGER && lengths[node] <= 4;
        }

        int smallInteger(int node) {
            if (!isSmallInteger(node)) {
                return 0;
            }
            int unusedBits = 32 - 8 * lengths[node];
            return numberAt(starts[node], lengths[node]) << unusedBits >> unusedBits;
        }

        int arcOf(int node, int k) {
            if (!isNode(node) || tags[node] != OBJECT || k < 0) {
                return NONE;
            }
            long part = partOf(node, k < 2 ? 0 : k - 1);
            if (part < 0) {
                return NONE;
            }
            long arc = part;
            if (k < 2) {
                int firstArc = firstArcOf(part);
                arc = k == 0 ? firstArc : part - 40 * firstArc;
            }
            return arc > LARGEST_ARC ? -2 : (int) arc;
        }

        private static int firstArcOf(long part) {
            if (part < 40) {
                return 0;
            }
            return part < 80 ? 1 : 2;
        }

        /** Part number index of an OBJECT, at most HUGE_PART; NONE if it has no such part. */
        private long partOf(int node, int index) {
            int partsBefore = 0;
            long part = 0;
            for (int i = starts[node]; i < endOf(node); i++) {
                part = Math.min(part << 7 | row[i] & 0x7F, HUGE_PART);
                if (row[i] < 0x80) {
                    if (partsBefore == index) {
                        return part;
                    }
                    partsBefore++;
                    part = 0;
                }
            }
            return NONE;
        }
    }

    /** The output and the values that are open in it. */
    private static final class Writer {
        private final int[] bytes = new int[MAX_BYTES];
        private int size = 0;

        // Where the identifiers of the open values are, the outermost first.
        private final int[] opened = new int[MAX_DEPTH];
        private int depth = 0;

        void clear() {
            size = 0;
            depth = 0;
        }

        int open(int tag) {
            if (!Rules.isIdentifier(tag)) {
                return -1;
            }
            if (!canHoldValue()) {
                return -2;
            }
            if (depth >= MAX_DEPTH || !hasRoom(1)) {
                return -3;
            }
            opened[depth] = size;
            depth++;
            append(tag);
            return 0;
        }

        int addByte(int b) {
            if (!Rules.isByte(b)) {
                return -1;
            }
            if (depth == 0 || openTag() == SEQUENCE) {
                return -2;
            }
            if (!hasRoom(1)) {
                return -3;
            }
            append(b);
            return 0;
        }

        int addInteger(int v) {
            if (openTag() != INTEGER || openLength() > 0) {
                return -2;
            }
            int count = integerSize(v);
            if (!hasRoom(count)) {
                return -3;
            }
            for (int i = count - 1; i >= 0; i--) {
                append(v >> 8 * i & 0xFF);
            }
            return 0;
        }

        int addPart(int v) {
            if (v < 0) {
                return -1;
            }
            if (openTag() != OBJECT) {
                return -2;
            }
            int count = partSize(v);
            if (!hasRoom(count)) {
                return -3;
            }
            for (int i = count - 1; i >= 0; i--) {
                int sevenBits = v >> 7 * i & 0x7F;
                append(i == 0 ? sevenBits : sevenBits | 0x80);
            }
            return 0;
        }

        int close() {
            if (depth == 0) {
                return -2;
            }
            int place = opened[depth - 1];
            int start = place + 1;
            int length = size - start;
            if (!Rules.hold(bytes[place], bytes, start, length)) {
                size = place;
                depth--;
                return -4;
            }
            int lengthSize = Rules.lengthSize(length);
            if (!hasRoom(lengthSize)) {
                return -3;
            }
            makeGap(start, lengthSize);
            writeLength(start, length, lengthSize);
            depth--;
            return 0;
        }

        int byteAt(int i) {
            return i >= 0 && i < size ? bytes[i] : NONE;
        }

        // With nothing open, bytes in the output mean that the root is closed: a root that goes takes all of them along.
        private boolean canHoldValue() {
            return depth == 0 ? size == 0 : openTag() == SEQUENCE;
        }

        private int openTag() {
            return depth == 0 ? NONE : bytes[opened[depth - 1]];
        }

        private int openLength() {
            return depth == 0 ? 0 : size - opened[depth - 1] - 1;
        }

        private boolean hasRoom(int count) {
            return size + count <= MAX_BYTES;
        }

        private void append(int b) {
            if (size < MAX_BYTES) {
                bytes[size] = b;
                size++;
            }
        }

        private static int integerSize(int v) {
            int count = 1;
            while (count < 4 && v >> 8 * count - 1 != v >> 31) {
                count++;
            }
            return count;
        }

        private static int partSize(int v) {
            int count = 1;
            while (count < 5 && v >> 7 * count != 0) {
                count++;
            }
            return count;
        }

        private void makeGap(int place, int count) {
            for (int i = size - 1; i >= place; i--) {
                bytes[i + count] = bytes[i];
            }
            size += count;
        }

        private void writeLength(int place, int length, int lengthSize) {
            if (lengthSize == 1) {
                bytes[place] = length;
                return;
            }
            int more = lengthSize - 1;
            bytes[place] = 0x80 + more;
            for (int i = 1; i <= more; i++) {
                bytes[place + i] = length >> 8 * (more - i) & 0xFF;
            }
        }
    }
}
