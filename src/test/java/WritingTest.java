/** Promises 14 to 22: the output, and the values that are open in it. */
public final class WritingTest {
    private static final int BOOLEAN = 1;
    private static final int INTEGER = 2;
    private static final int BITS = 3;
    private static final int OCTETS = 4;
    private static final int NULL = 5;
    private static final int OBJECT = 6;
    private static final int SEQUENCE = 0x30;

    public static void main(String[] args) {
        begin();
        beginInAFullOutput();
        putByte();
        putInt();
        putIntRefused();
        putPart();
        putPartRefused();
        endOfRightContents();
        endOfWrongContents();
        endOfLongContents();
        endWithoutRoom();
        wrongContentsComeBeforeRoom();
        rootIsOne();
        out();
        depthOfMany();
        restart();
        wholeTree();
        Check.finish();
    }

    private static DerDesk opened(int... tags) {
        DerDesk desk = new DerDesk();
        for (int tag : tags) {
            Check.due("begin(" + tag + ")", 0, desk.begin(tag));
        }
        return desk;
    }

    private static void put(DerDesk desk, String hex) {
        for (int b : Check.bytes(hex)) {
            Check.due("putByte(" + b + ")", 0, desk.putByte(b));
        }
    }

    private static void holds(String when, DerDesk desk, String hex, int depth) {
        Check.due("the output of " + when, hex.replace(" ", ""), Check.output(desk));
        Check.due("depth() of " + when, depth, desk.depth());
    }

    private static void begin() {
        for (int tag = -2; tag < 300; tag++) {
            DerDesk desk = new DerDesk();
            boolean known = tag >= 1 && tag <= 6 || tag == SEQUENCE;
            Check.due("begin(" + tag + ")", known ? 0 : -1, desk.begin(tag));
            holds("begin(" + tag + ")", desk, known ? String.format("%02x", tag) : "", known ? 1 : 0);
        }
        int[] none = {Integer.MIN_VALUE, Integer.MAX_VALUE, 0x130, 0x101, -256 + 1};
        for (int tag : none) {
            Check.due("begin(" + tag + ")", -1, new DerDesk().begin(tag));
        }
        for (int plain = 1; plain <= 6; plain++) {
            DerDesk desk = opened(SEQUENCE, plain);
            Check.due("begin(5) within " + plain, -2, desk.begin(NULL));
            Check.due("begin(48) within " + plain, -2, desk.begin(SEQUENCE));
            Check.due("begin(7) within " + plain, -1, desk.begin(7));
            holds("a plain value", desk, String.format("300%d", plain), 2);
        }
    }

    private static void beginInAFullOutput() {
        DerDesk desk = opened(SEQUENCE, OCTETS);
        put(desk, "07".repeat(295));
        Check.due("end() into 300", 0, desk.end());
        Check.due("outSize()", 300, desk.outSize());
        Check.due("begin(5) in a full output", -3, desk.begin(NULL));
        Check.due("begin(8) in a full output", -1, desk.begin(8));
        Check.due("depth() of a full output", 1, desk.depth());

        DerDesk almost = opened(SEQUENCE, OCTETS);
        put(almost, "07".repeat(294));
        Check.due("end() into 299", 0, almost.end());
        Check.due("begin(5) into the last byte", 0, almost.begin(NULL));
        Check.due("outSize()", 300, almost.outSize());
        Check.due("end() without room for 00", -3, almost.end());
        Check.due("depth()", 2, almost.depth());
    }

    private static void putByte() {
        DerDesk desk = new DerDesk();
        Check.due("putByte(256), none open", -1, desk.putByte(256));
        Check.due("putByte(0), none open", -2, desk.putByte(0));
        Check.due("begin(48)", 0, desk.begin(SEQUENCE));
        Check.due("putByte(-1) in a SEQUENCE", -1, desk.putByte(-1));
        Check.due("putByte(0) in a SEQUENCE", -2, desk.putByte(0));
        for (int plain = 1; plain <= 6; plain++) {
            DerDesk in = opened(plain);
            put(in, "00ff80");
            int[] none = {-1, 256, Integer.MIN_VALUE, Integer.MAX_VALUE};
            for (int b : none) {
                Check.due("putByte(" + b + ")", -1, in.putByte(b));
            }
            holds("bytes in " + plain, in, String.format("0%d00ff80", plain), 1);
        }
        DerDesk full = opened(OCTETS);
        put(full, "09".repeat(299));
        Check.due("putByte(9) when full", -3, full.putByte(9));
        Check.due("putByte(300) when full", -1, full.putByte(300));
        Check.due("outSize() when full", 300, full.outSize());
    }

    private static void integerIs(int v, String contents) {
        DerDesk desk = opened(INTEGER);
        Check.due("putInt(" + v + ")", 0, desk.putInt(v));
        holds("putInt(" + v + ")", desk, "02" + contents, 1);
        Check.due("putInt(0) behind it", -2, desk.putInt(0));
        Check.due("end()", 0, desk.end());
        holds("the closed number", desk, String.format("02%02x", contents.length() / 2) + contents, 0);
    }

    private static void putInt() {
        integerIs(0, "00");
        integerIs(1, "01");
        integerIs(-1, "ff");
        integerIs(127, "7f");
        integerIs(128, "0080");
        integerIs(-128, "80");
        integerIs(-129, "ff7f");
        integerIs(255, "00ff");
        integerIs(256, "0100");
        integerIs(32767, "7fff");
        integerIs(32768, "008000");
        integerIs(-32768, "8000");
        integerIs(-32769, "ff7fff");
        integerIs(8388607, "7fffff");
        integerIs(8388608, "00800000");
        integerIs(-8388608, "800000");
        integerIs(-8388609, "ff7fffff");
        integerIs(Integer.MAX_VALUE, "7fffffff");
        integerIs(Integer.MIN_VALUE, "80000000");
        integerIs(0x12345678, "12345678");
    }

    private static void putIntRefused() {
        Check.due("putInt(1), none open", -2, new DerDesk().putInt(1));
        int[] others = {BOOLEAN, BITS, OCTETS, NULL, OBJECT, SEQUENCE};
        for (int tag : others) {
            DerDesk desk = opened(tag);
            Check.due("putInt(1) in " + tag, -2, desk.putInt(1));
            Check.due("outSize()", 1, desk.outSize());
        }
        DerDesk begun = opened(INTEGER);
        put(begun, "05");
        Check.due("putInt(1) behind a byte", -2, begun.putInt(1));
        put(begun, "06");
        holds("bytes behind a byte", begun, "020506", 1);

        for (int room = 0; room <= 4; room++) {
            int[] numbers = {0, 128, 32768, 8388608};
            for (int i = 0; i < numbers.length; i++) {
                DerDesk desk = withRoom(room, INTEGER);
                boolean fits = i + 1 <= room;
                Check.due("putInt(" + numbers[i] + ") with room " + room, fits ? 0 : -3, desk.putInt(numbers[i]));
                Check.due("outSize()", 300 - room + (fits ? i + 1 : 0), desk.outSize());
            }
        }
    }

    /** An output with room for so many bytes, and an empty value open in it. */
    private static DerDesk withRoom(int room, int tag) {
        DerDesk desk = opened(SEQUENCE, OCTETS);
        put(desk, "07".repeat(294 - room));
        Check.due("end()", 0, desk.end());
        Check.due("begin(" + tag + ")", 0, desk.begin(tag));
        Check.due("outSize()", 300 - room, desk.outSize());
        return desk;
    }

    private static void partIs(int v, String contents) {
        DerDesk desk = opened(OBJECT);
        Check.due("putPart(" + v + ")", 0, desk.putPart(v));
        holds("putPart(" + v + ")", desk, "06" + contents, 1);
        Check.due("putPart(1)", 0, desk.putPart(1));
        Check.due("end()", 0, desk.end());
        holds("the closed parts", desk, String.format("06%02x", contents.length() / 2 + 1) + contents + "01", 0);
    }

    private static void putPart() {
        partIs(0, "00");
        partIs(42, "2a");
        partIs(127, "7f");
        partIs(128, "8100");
        partIs(840, "8648");
        partIs(16383, "ff7f");
        partIs(16384, "818000");
        partIs(113549, "86f70d");
        partIs(2097151, "ffff7f");
        partIs(2097152, "81808000");
        partIs(268435455, "ffffff7f");
        partIs(268435456, "8180808000");
        partIs(2147483647, "87ffffff7f");
    }

    private static void putPartRefused() {
        DerDesk none = new DerDesk();
        Check.due("putPart(1), none open", -2, none.putPart(1));
        Check.due("putPart(-1), none open", -1, none.putPart(-1));
        int[] others = {BOOLEAN, INTEGER, BITS, OCTETS, NULL, SEQUENCE};
        for (int tag : others) {
            DerDesk desk = opened(tag);
            Check.due("putPart(1) in " + tag, -2, desk.putPart(1));
            Check.due("putPart(-5) in " + tag, -1, desk.putPart(-5));
            Check.due("outSize()", 1, desk.outSize());
        }
        DerDesk object = opened(OBJECT);
        Check.due("putPart(-1)", -1, object.putPart(-1));
        Check.due("putPart(MIN)", -1, object.putPart(Integer.MIN_VALUE));
        Check.due("outSize()", 1, object.outSize());

        int[] parts = {0, 128, 16384, 2097152, 268435456};
        for (int room = 0; room <= 5; room++) {
            for (int i = 0; i < parts.length; i++) {
                DerDesk desk = withRoom(room, OBJECT);
                boolean fits = i + 1 <= room;
                Check.due("putPart(-1) with room " + room, -1, desk.putPart(-1));
                Check.due("putPart(" + parts[i] + ") with room " + room, fits ? 0 : -3, desk.putPart(parts[i]));
                Check.due("outSize()", 300 - room + (fits ? i + 1 : 0), desk.outSize());
            }
        }
    }

    private static void endOfRightContents() {
        String[] right = {"01 00", "01 ff", "02 00", "02 ff", "02 0080", "02 ff7f", "03 00", "03 0780", "03 00ff",
            "03 04fff0", "04", "04 80", "05", "06 00", "06 8100", "06 ff8001", "30"};
        for (String value : right) {
            DerDesk desk = opened(Integer.parseInt(value.substring(0, 2), 16));
            String contents = value.substring(2).trim();
            put(desk, contents);
            Check.due("end() of " + value, 0, desk.end());
            holds(value, desk, value.substring(0, 2) + String.format("%02x", contents.length() / 2) + contents, 0);
            Check.due("end() again", -2, desk.end());
            Check.due("begin(5) behind the root", -2, desk.begin(NULL));
        }
        Check.due("end() of nothing", -2, new DerDesk().end());
    }

    private static void endOfWrongContents() {
        String[] wrong = {"01", "01 01", "01 fe", "01 0000", "01 ffff", "02", "02 0000", "02 007f", "02 ff80", "02 ffff",
            "03", "03 01", "03 07", "03 08", "03 0800", "03 0101", "03 0740", "03 04ff08", "05 00", "05 0000",
            "06", "06 80", "06 ff", "06 0180", "06 8001", "06 018001"};
        for (String value : wrong) {
            int tag = Integer.parseInt(value.substring(0, 2), 16);
            DerDesk root = opened(tag);
            put(root, value.substring(2).trim());
            Check.due("end() of " + value, -4, root.end());
            holds(value, root, "", 0);
            Check.due("end() of nothing", -2, root.end());
            Check.due("begin(5) where the root went", 0, root.begin(NULL));
            Check.due("end()", 0, root.end());
            holds("the root behind " + value, root, "0500", 0);

            DerDesk within = opened(SEQUENCE, tag);
            put(within, value.substring(2).trim());
            Check.due("end() of " + value, -4, within.end());
            holds(value + " within", within, "30", 1);
            Check.due("end() of the SEQUENCE", 0, within.end());
            holds("the SEQUENCE", within, "3000", 0);
        }
    }

    private static void endOfLongContents() {
        int[] lengths = {126, 127, 128, 129, 254, 255, 256, 257, 295, 296};
        for (int length : lengths) {
            DerDesk desk = opened(OCTETS);
            for (int i = 0; i < length; i++) {
                Check.due("putByte()", 0, desk.putByte(i & 0xFF));
            }
            Check.due("end() of " + length, 0, desk.end());
            String head = length < 128 ? String.format("%02x", length)
                : length < 256 ? String.format("81%02x", length) : String.format("82%04x", length);
            Check.due("outSize() of " + length, length + 1 + head.length() / 2, desk.outSize());
            Check.due("out(0)", 4, desk.out(0));
            int[] lengthBytes = Check.bytes(head);
            for (int i = 0; i < lengthBytes.length; i++) {
                Check.due("out(" + (i + 1) + ") of " + length, lengthBytes[i], desk.out(i + 1));
            }
            int[] some = {0, 1, length / 2, length - 1};
            for (int i : some) {
                Check.due("content " + i + " of " + length, i & 0xFF, desk.out(1 + lengthBytes.length + i));
            }
        }
    }

    private static void endWithoutRoom() {
        for (int length = 296; length <= 299; length++) {
            DerDesk desk = opened(OCTETS);
            put(desk, "11".repeat(length));
            Check.due("end() of " + length, length == 296 ? 0 : -3, desk.end());
            Check.due("outSize() of " + length, length == 296 ? 300 : length + 1, desk.outSize());
            Check.due("depth() of " + length, length == 296 ? 0 : 1, desk.depth());
            Check.due("out(1) of " + length, length == 296 ? 0x82 : 0x11, desk.out(1));
            Check.due("end() again", length == 296 ? -2 : -3, desk.end());
        }
        DerDesk two = opened(SEQUENCE, OCTETS);
        put(two, "22".repeat(292));
        Check.due("end() of the inner one", 0, two.end());
        Check.due("outSize()", 297, two.outSize());
        Check.due("end() of the outer one", 0, two.end());
        Check.due("outSize()", 300, two.outSize());
        DerDesk more = opened(SEQUENCE, OCTETS);
        put(more, "22".repeat(293));
        Check.due("end() of the inner one", 0, more.end());
        Check.due("end() of the outer one", -3, more.end());
        Check.due("outSize()", 298, more.outSize());
        Check.due("depth()", 1, more.depth());
    }

    private static void wrongContentsComeBeforeRoom() {
        DerDesk desk = opened(OBJECT);
        put(desk, "80".repeat(299));
        Check.due("end() of wrong contents in a full output", -4, desk.end());
        holds("what is left", desk, "", 0);
        DerDesk empty = withRoom(0, INTEGER);
        Check.due("end() of an empty INTEGER in a full output", -4, empty.end());
        Check.due("outSize()", 299, empty.outSize());
        Check.due("depth()", 1, empty.depth());
    }

    private static void rootIsOne() {
        DerDesk desk = opened(NULL);
        Check.due("end()", 0, desk.end());
        for (int tag = 1; tag <= 6; tag++) {
            Check.due("begin(" + tag + ") behind the root", -2, desk.begin(tag));
        }
        Check.due("begin(48) behind the root", -2, desk.begin(SEQUENCE));
        Check.due("begin(9) behind the root", -1, desk.begin(9));
        Check.due("putByte(1) behind the root", -2, desk.putByte(1));
        Check.due("putInt(1) behind the root", -2, desk.putInt(1));
        Check.due("putPart(1) behind the root", -2, desk.putPart(1));
        holds("the root", desk, "0500", 0);

        DerDesk full = opened(OCTETS);
        put(full, "33".repeat(296));
        Check.due("end() of the full root", 0, full.end());
        Check.due("begin(5) behind the full root", -2, full.begin(NULL));
    }

    private static void out() {
        DerDesk desk = opened(SEQUENCE, OCTETS);
        put(desk, "aabb");
        int[] none = {-1, 4, 5, 299, 300, 301, Integer.MIN_VALUE, Integer.MAX_VALUE};
        for (int i : none) {
            Check.due("out(" + i + ")", -1, desk.out(i));
        }
        holds("open values", desk, "3004aabb", 2);
        Check.due("end()", 0, desk.end());
        holds("a closed one", desk, "300402aabb", 1);
        Check.due("end()", 0, desk.end());
        holds("the root", desk, "3004 0402aabb", 0);

        DerDesk full = opened(OCTETS);
        put(full, "44".repeat(299));
        Check.due("out(299)", 0x44, full.out(299));
        Check.due("out(300)", -1, full.out(300));
        DerDesk gone = opened(SEQUENCE, BOOLEAN);
        put(gone, "5566");
        Check.due("end()", -4, gone.end());
        Check.due("out(1) of what is gone", -1, gone.out(1));
    }

    private static void depthOfMany() {
        DerDesk desk = new DerDesk();
        for (int i = 0; i < 16; i++) {
            Check.due("depth()", i, desk.depth());
            Check.due("begin(48)", 0, desk.begin(SEQUENCE));
        }
        Check.due("begin(48) within 16", -3, desk.begin(SEQUENCE));
        Check.due("begin(5) within 16", -3, desk.begin(NULL));
        Check.due("begin(0) within 16", -1, desk.begin(0));
        Check.due("depth()", 16, desk.depth());
        Check.due("end()", 0, desk.end());
        Check.due("begin(5) within 15", 0, desk.begin(NULL));
        Check.due("begin(5) in a plain one, with 16 open", -2, desk.begin(NULL));
        for (int i = 16; i > 0; i--) {
            Check.due("depth()", i, desk.depth());
            Check.due("end()", 0, desk.end());
        }
        Check.due("depth()", 0, desk.depth());
        Check.due("end()", -2, desk.end());
    }

    private static void restart() {
        DerDesk desk = opened(SEQUENCE, SEQUENCE, OCTETS);
        put(desk, "77");
        desk.restart();
        holds("restart()", desk, "", 0);
        Check.due("end()", -2, desk.end());
        Check.due("putByte(1)", -2, desk.putByte(1));
        Check.due("out(0)", -1, desk.out(0));
        Check.due("begin(5)", 0, desk.begin(NULL));
        Check.due("end()", 0, desk.end());
        desk.restart();
        Check.due("begin(2) behind a root that was closed", 0, desk.begin(INTEGER));
        Check.due("putInt(300)", 0, desk.putInt(300));
        Check.due("end()", 0, desk.end());
        holds("the second root", desk, "0202012c", 0);
    }

    private static void wholeTree() {
        DerDesk desk = opened(SEQUENCE, OBJECT);
        Check.due("putPart(42)", 0, desk.putPart(42));
        Check.due("putPart(840)", 0, desk.putPart(840));
        Check.due("end()", 0, desk.end());
        Check.due("begin(48)", 0, desk.begin(SEQUENCE));
        Check.due("begin(2)", 0, desk.begin(INTEGER));
        Check.due("putInt(-129)", 0, desk.putInt(-129));
        Check.due("end()", 0, desk.end());
        Check.due("begin(4)", 0, desk.begin(OCTETS));
        put(desk, "ab".repeat(130));
        Check.due("end()", 0, desk.end());
        Check.due("end()", 0, desk.end());
        Check.due("begin(5)", 0, desk.begin(NULL));
        Check.due("end()", 0, desk.end());
        Check.due("end()", 0, desk.end());
        holds("a tree", desk, "308193 06032a8648 308189 0202ff7f 048182" + "ab".repeat(130) + "0500", 0);
        Check.parsed(Check.output(desk));
    }
}
