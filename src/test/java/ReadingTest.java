/** Promises 1 to 13: the row, its offences and its tree. */
public final class ReadingTest {
    private static final int[] EDGE_NODES = {-1, Integer.MIN_VALUE, Integer.MAX_VALUE, 64, 65, 300};

    public static void main(String[] args) {
        newObject();
        feed();
        rowEnds();
        badIdentifiers();
        badLengths();
        goodLengths();
        beyond();
        badContents();
        goodContents();
        bytesBehind();
        tooManyValues();
        tooDeep();
        orderOfOffences();
        offencePlaceStays();
        treeOfNodes();
        noSuchNode();
        arcs();
        integers();
        parseAgain();
        wipe();
        halvesAreApart();
        Check.finish();
    }

    private static void newObject() {
        DerDesk desk = new DerDesk();
        Check.due("offence() of a new object", -1, desk.offence());
        noTree("a new object", desk);
        Check.due("outSize() of a new object", 0, desk.outSize());
        Check.due("out(0) of a new object", -1, desk.out(0));
        Check.due("depth() of a new object", 0, desk.depth());
        Check.due("parse() of a new object", -1, desk.parse());
        Check.due("offence() of an empty row", 0, desk.offence());
    }

    private static void noTree(String when, DerDesk desk) {
        Check.due("nodeCount() of " + when, 0, desk.nodeCount());
        Check.due("tagOf(0) of " + when, -1, desk.tagOf(0));
        Check.due("contentAt(0) of " + when, -1, desk.contentAt(0));
        Check.due("contentLen(0) of " + when, -1, desk.contentLen(0));
        Check.due("parent(0) of " + when, -1, desk.parent(0));
        Check.due("oidArc(0, 0) of " + when, -1, desk.oidArc(0, 0));
        Check.due("intFits(0) of " + when, false, desk.intFits(0));
        Check.due("intValue(0) of " + when, 0, desk.intValue(0));
    }

    private static void feed() {
        DerDesk desk = Check.parsed("0201 2a");
        int[] noBytes = {-1, 256, Integer.MIN_VALUE, Integer.MAX_VALUE, -128};
        for (int b : noBytes) {
            Check.due("feed(" + b + ")", -1, desk.feed(b));
        }
        Check.due("intValue(0) after refused bytes", 42, desk.intValue(0));
        Check.due("feed(0) behind a tree", 0, desk.feed(0));
        noTree("a tree that was fed", desk);
        Check.due("parse() of a row with a byte more", -6, desk.parse());

        DerDesk full = new DerDesk();
        fillOctets(full, 296);
        Check.due("parse() of 300 bytes", 0, full.parse());
        Check.due("feed(256) to 300", -1, full.feed(256));
        Check.due("feed(0) to 300", -3, full.feed(0));
        Check.due("feed(255) to 300", -3, full.feed(255));
        Check.due("contentLen(0) after a refused byte", 296, full.contentLen(0));
        Check.due("parse() again of 300 bytes", 0, full.parse());
    }

    private static void fillOctets(DerDesk desk, int length) {
        Check.feed(desk, String.format("0482%04x", length));
        for (int i = 0; i < length; i++) {
            Check.due("feed of contents " + i, 0, desk.feed(i & 0xFF));
        }
    }

    private static void offends(String hex, int code, int place) {
        DerDesk desk = Check.parsed("0500");
        desk.wipe();
        Check.feed(desk, hex);
        for (int again = 0; again < 2; again++) {
            Check.due("parse() of " + hex, code, desk.parse());
            Check.due("offence() of " + hex, place, desk.offence());
            noTree(hex, desk);
        }
    }

    private static void isRight(String hex, int nodes) {
        DerDesk desk = Check.parsed(hex);
        Check.due("offence() of " + hex, -1, desk.offence());
        Check.due("nodeCount() of " + hex, nodes, desk.nodeCount());
    }

    private static void rowEnds() {
        offends("", -1, 0);
        offends("02", -1, 1);
        offends("30", -1, 1);
        offends("0481", -1, 2);
        offends("0482", -1, 2);
        offends("0482 01", -1, 3);
        offends("0482 00", -1, 3);
    }

    private static void badIdentifiers() {
        for (int b = 0; b < 256; b++) {
            if (b == 0 || b > 6 && b != 0x30) {
                offends(String.format("%02x", b), -2, 0);
                offends(String.format("30040500%02x00", b), -2, 4);
            }
        }
    }

    private static void badLengths() {
        for (int lead = 0x80; lead < 256; lead++) {
            if (lead != 0x81 && lead != 0x82) {
                offends(String.format("04%02x", lead), -3, 1);
                offends(String.format("300304%02x00", lead), -3, 3);
                offends(String.format("300204%02x", lead), -3, 3);
            }
        }
        offends("048100", -3, 1);
        offends("04817f", -3, 1);
        offends("04820000", -3, 1);
        offends("0482007f", -3, 1);
        offends("04820080", -3, 1);
        offends("048200ff", -3, 1);
        offends("3004 0481 7f00", -3, 3);
        offends("3004 0482 00ff", -3, 3);
    }

    private static void goodLengths() {
        int[] lengths = {0, 1, 127, 128, 129, 255, 256, 296};
        for (int length : lengths) {
            String head = length < 128 ? String.format("04%02x", length)
                : length < 256 ? String.format("0481%02x", length) : String.format("0482%04x", length);
            String hex = head + "80".repeat(length);
            DerDesk desk = Check.parsed(hex);
            Check.due("contentAt(0) with length " + length, head.length() / 2, desk.contentAt(0));
            Check.due("contentLen(0) with length " + length, length, desk.contentLen(0));
            if (length > 0) {
                offends(head + "80".repeat(length - 1), -4, 0);
            }
        }
    }

    private static void beyond() {
        offends("0401", -4, 0);
        offends("3001", -4, 0);
        offends("0482ffff", -4, 0);
        offends("0481ff", -4, 0);
        offends("307f 0500", -4, 0);
        offends("3003 0201", -4, 0);
        offends("3001 05", -4, 2);
        offends("3003 0500 05", -4, 4);
        offends("3002 0481", -4, 2);
        offends("3002 0482", -4, 2);
        offends("3003 0482 01", -4, 2);
        offends("3001 05 00", -4, 2);
        offends("3002 0481 80", -4, 2);
        offends("3003 0402 01 01", -4, 2);
        offends("3005 3001 0500 00", -4, 4);
        offends("3006 3002 0401 0102", -4, 4);
        // What stands behind the end that cuts a length off is not looked at.
        offends("3001 05 80", -4, 2);
        offends("3001 05 ff", -4, 2);
        offends("3002 0481 05", -4, 2);
        offends("3003 0482 00 01", -4, 2);
        offends("30820128 04820123" + "00".repeat(291) + "05", -4, 299);
        DerDesk desk = Check.fed("0580 00");
        Check.due("parse() of 058000", -3, desk.parse());
        desk.wipe();
        Check.feed(desk, "05");
        Check.due("parse() of 05 where 80 stood before", -1, desk.parse());
        Check.due("offence() of 05 where 80 stood before", 1, desk.offence());
    }

    private static void badContents() {
        String[] wrong = {"0100", "010101", "0101fe", "01017f", "010180", "01020000", "0102ffff",
            "0200", "02020000", "0202007f", "0202ff80", "0202ffff", "0203000001", "0203ff8000",
            "0300", "030101", "030107", "030108", "0301ff", "03020800", "0302ff00", "03020101", "03020702", "030207c0",
            "0302047c", "0303010001", "030304f008",
            "050100", "05020000",
            "0600", "060180", "0601ff", "06020180", "06028001", "0603018001", "06032a80ff", "06032a8001"};
        for (String hex : wrong) {
            offends(hex, -5, 0);
            offends(String.format("30%02x0500", hex.length() / 2 + 2) + hex, -5, 4);
        }
    }

    private static void goodContents() {
        String[] right = {"010100", "0101ff", "020100", "0201ff", "02017f", "020180", "02020080", "0202ff7f",
            "02020100", "0202feff", "02020180", "0202fe7f", "020900ffffffffffffffff",
            "030100", "03020000", "030200ff", "030201fe", "03020780", "03020700", "0303070180", "0303047ff0",
            "0400", "040180", "0403ffffff", "0500", "060100", "06012a", "06017f", "06028100", "0603ff807f",
            "0603018100", "060481800101", "3000", "30023000", "3004 3000 3000"};
        for (String hex : right) {
            isRight(hex, hex.equals("30023000") ? 2 : hex.equals("3004 3000 3000") ? 3 : 1);
        }
    }

    private static void bytesBehind() {
        offends("0500 05", -6, 2);
        offends("0500 0500", -6, 2);
        offends("3000 00", -6, 2);
        offends("3002 0500 ffff", -6, 4);
        offends("3004 3002 0500 07", -6, 6);
    }

    private static void tooManyValues() {
        isRight("307e" + "0500".repeat(63), 64);
        offends("308180" + "0500".repeat(64), -7, 129);
        offends("308181" + "0500".repeat(63) + "ff8000", -2, 129);
        offends("308180" + "0500".repeat(63) + "0480", -7, 129);
        offends("30 7f" + "0500".repeat(63) + "04", -7, 128);
        offends("308180" + "0500".repeat(63) + "047f", -7, 129);
        offends("308181" + "0500".repeat(63) + "010102", -7, 129);
        isRight("307e" + "3000".repeat(63), 64);
        offends("308180" + "3000".repeat(64), -7, 129);
    }

    private static String nested(int sequences, String innermost) {
        String hex = innermost.replace(" ", "");
        for (int i = 0; i < sequences; i++) {
            hex = String.format("30%02x", hex.length() / 2) + hex;
        }
        return hex;
    }

    private static void tooDeep() {
        isRight(nested(15, "0500"), 16);
        isRight(nested(16, ""), 16);
        offends(nested(16, "0500"), -7, 32);
        offends(nested(17, ""), -7, 32);
        offends(nested(16, "05"), -7, 32);
        offends(nested(16, "0480"), -7, 32);
        offends(nested(16, "0401"), -7, 32);
        offends(nested(16, "010107"), -7, 32);
        offends(nested(16, "0700"), -2, 32);
        offends(nested(15, "0500 3000 3000 010107"), -5, 36);
        offends(nested(15, "3000 3002 0500"), -7, 34);
        isRight(nested(14, "3002 3000 3002 0500"), 18);
    }

    private static void orderOfOffences() {
        offends("3006 0101 02 0200 07", -5, 2);
        offends("3002 0700 00", -2, 2);
        offends("0101 02 00", -5, 0);
        offends("3080 0700", -3, 1);
        offends("0182 0001 02", -3, 1);
        offends("3005 0281 0107 00", -3, 3);
        offends("3002 0105 ff", -4, 2);
        offends("0600 00", -5, 0);
        offends("3003 0500 07 00", -2, 4);
    }

    private static void offencePlaceStays() {
        DerDesk desk = Check.fed("0500 00");
        Check.due("parse() with a byte behind", -6, desk.parse());
        Check.due("feed(0) behind an offence", 0, desk.feed(0));
        Check.due("offence() of the latest parse() after feed", 2, desk.offence());
        desk.wipe();
        Check.due("offence() of the latest parse() after wipe", 2, desk.offence());
        Check.feed(desk, "0500");
        Check.due("parse() of a right row", 0, desk.parse());
        Check.due("offence() after a right row", -1, desk.offence());
        Check.due("feed(9) behind a right row", 0, desk.feed(9));
        Check.due("offence() before the row is read again", -1, desk.offence());
    }

    private static void treeOfNodes() {
        DerDesk desk = Check.parsed("3014 020101 3000 3008 040155 3003 0101ff 0500 06012a");
        int[][] due = {{0x30, 2, 20, -1}, {2, 4, 1, 0}, {0x30, 7, 0, 0}, {0x30, 9, 8, 0}, {4, 11, 1, 3},
            {0x30, 14, 3, 3}, {1, 16, 1, 5}, {5, 19, 0, 0}, {6, 21, 1, 0}};
        Check.due("nodeCount()", due.length, desk.nodeCount());
        for (int node = 0; node < due.length; node++) {
            Check.due("tagOf(" + node + ")", due[node][0], desk.tagOf(node));
            Check.due("contentAt(" + node + ")", due[node][1], desk.contentAt(node));
            Check.due("contentLen(" + node + ")", due[node][2], desk.contentLen(node));
            Check.due("parent(" + node + ")", due[node][3], desk.parent(node));
        }
        Check.due("tagOf behind the last node", -1, desk.tagOf(due.length));
    }

    private static void noSuchNode() {
        DerDesk desk = Check.parsed("3003 06012a");
        for (int node : EDGE_NODES) {
            Check.due("tagOf(" + node + ")", -1, desk.tagOf(node));
            Check.due("contentAt(" + node + ")", -1, desk.contentAt(node));
            Check.due("contentLen(" + node + ")", -1, desk.contentLen(node));
            Check.due("parent(" + node + ")", -1, desk.parent(node));
            Check.due("oidArc(" + node + ", 0)", -1, desk.oidArc(node, 0));
            Check.due("intFits(" + node + ")", false, desk.intFits(node));
            Check.due("intValue(" + node + ")", 0, desk.intValue(node));
        }
        for (int node = 2; node < 64; node++) {
            Check.due("contentLen(" + node + ") behind the last", -1, desk.contentLen(node));
        }
    }

    private static void arcsAre(String contents, int... arcs) {
        DerDesk desk = Check.parsed(String.format("06%02x", contents.length() / 2) + contents);
        for (int k = 0; k < arcs.length; k++) {
            Check.due("oidArc(0, " + k + ") of " + contents, arcs[k], desk.oidArc(0, k));
        }
        int[] none = {arcs.length, arcs.length + 1, -1, -2, Integer.MIN_VALUE, Integer.MAX_VALUE};
        for (int k : none) {
            Check.due("oidArc(0, " + k + ") of " + contents, -1, desk.oidArc(0, k));
        }
    }

    private static void arcs() {
        arcsAre("00", 0, 0);
        arcsAre("27", 0, 39);
        arcsAre("28", 1, 0);
        arcsAre("4f", 1, 39);
        arcsAre("50", 2, 0);
        arcsAre("7f", 2, 47);
        arcsAre("8100", 2, 48);
        arcsAre("2a864886f70d", 1, 2, 840, 113549);
        arcsAre("2a000100", 1, 2, 0, 1, 0);
        arcsAre("2a87ffffff7f", 1, 2, 2147483647);
        arcsAre("2a888080800001", 1, 2, -2, 1);
        arcsAre("87ffffff7f", 2, 2147483567);
        arcsAre("888080804f01", 2, 2147483647, 1);
        arcsAre("888080805001", 2, -2, 1);
        arcsAre("8fffffff7f", 2, -2);
        arcsAre("2a" + "81" + "80".repeat(8) + "00" + "05", 1, 2, -2, 5);
        arcsAre("2a" + "82" + "80".repeat(8) + "00" + "05", 1, 2, -2, 5);
        arcsAre("2a" + "90" + "80".repeat(3) + "00" + "05", 1, 2, -2, 5);
        arcsAre("ff".repeat(100) + "7f" + "05", 2, -2, 5);
        arcsAre("2a" + "81" + "80".repeat(100) + "00" + "07", 1, 2, -2, 7);

        DerDesk others = Check.parsed("3013 0101ff 02012a 030100 04012a 0500 3000 06012a");
        for (int node = 0; node < 7; node++) {
            Check.due("oidArc(" + node + ", 0) of a node that is none", -1, others.oidArc(node, 0));
            Check.due("oidArc(" + node + ", 1) of a node that is none", -1, others.oidArc(node, 1));
        }
        Check.due("oidArc(7, 1)", 2, others.oidArc(7, 1));
    }

    private static void integerIs(String contents, boolean fits, int value) {
        DerDesk desk = Check.parsed(String.format("02%02x", contents.length() / 2) + contents);
        Check.due("intFits(0) of " + contents, fits, desk.intFits(0));
        Check.due("intValue(0) of " + contents, value, desk.intValue(0));
    }

    private static void integers() {
        integerIs("00", true, 0);
        integerIs("7f", true, 127);
        integerIs("80", true, -128);
        integerIs("ff", true, -1);
        integerIs("0080", true, 128);
        integerIs("ff7f", true, -129);
        integerIs("7fff", true, 32767);
        integerIs("8000", true, -32768);
        integerIs("00ffff", true, 65535);
        integerIs("800000", true, -8388608);
        integerIs("010203", true, 66051);
        integerIs("7fffffff", true, Integer.MAX_VALUE);
        integerIs("80000000", true, Integer.MIN_VALUE);
        integerIs("89abcdef", true, 0x89abcdef);
        integerIs("0080000000", false, 0);
        integerIs("ff7fffffff", false, 0);
        integerIs("0100000000", false, 0);
        integerIs("7f".repeat(100), false, 0);

        DerDesk others = Check.parsed("3011 0101ff 020105 030100 04012a 0500 06012a");
        for (int node = 0; node < 7; node++) {
            Check.due("intFits(" + node + ")", node == 2, others.intFits(node));
            Check.due("intValue(" + node + ")", node == 2 ? 5 : 0, others.intValue(node));
        }
    }

    private static void parseAgain() {
        DerDesk desk = Check.parsed("3006 020105 020106");
        for (int again = 0; again < 40; again++) {
            Check.due("parse() again", 0, desk.parse());
            Check.due("nodeCount() again", 3, desk.nodeCount());
            Check.due("parent(0) again", -1, desk.parent(0));
            Check.due("parent(2) again", 0, desk.parent(2));
            Check.due("intValue(2) again", 6, desk.intValue(2));
        }
        DerDesk deep = Check.fed(nested(16, "0500"));
        for (int again = 0; again < 3; again++) {
            Check.due("parse() of a deep row again", -7, deep.parse());
            Check.due("offence() of a deep row again", 32, deep.offence());
        }
        deep.wipe();
        Check.feed(deep, "3002 0500");
        Check.due("parse() of a flat row behind a deep one", 0, deep.parse());
        Check.due("parent(1) of a flat row behind a deep one", 0, deep.parent(1));
    }

    private static void wipe() {
        DerDesk desk = Check.parsed("3003 020105");
        desk.wipe();
        noTree("a wiped row", desk);
        Check.due("parse() of a wiped row", -1, desk.parse());
        Check.due("offence() of a wiped row", 0, desk.offence());
        DerDesk full = new DerDesk();
        fillOctets(full, 296);
        full.wipe();
        Check.feed(full, "0500");
        Check.due("parse() behind a wiped full row", 0, full.parse());
        Check.due("contentLen(0) behind a wiped full row", 0, full.contentLen(0));
    }

    private static void halvesAreApart() {
        DerDesk desk = Check.parsed("020105");
        Check.due("begin(48)", 0, desk.begin(0x30));
        Check.due("begin(2)", 0, desk.begin(2));
        Check.due("putInt(7)", 0, desk.putInt(7));
        Check.due("end()", 0, desk.end());
        Check.due("intValue(0) while something is written", 5, desk.intValue(0));
        desk.wipe();
        Check.due("output after wipe()", "30020107", Check.output(desk));
        Check.due("depth() after wipe()", 1, desk.depth());
        Check.feed(desk, "020106");
        Check.due("parse()", 0, desk.parse());
        desk.restart();
        Check.due("intValue(0) after restart()", 6, desk.intValue(0));
        Check.due("parse() after restart()", 0, desk.parse());
    }
}
