/** The edges of section 2 and of promises 1 to 13, sentence by sentence. */
public final class ReadingEdgesTest {
    private static final int[] NO_BYTES = {-1, 256, -128, -255, 257, 512, 0x10005, Integer.MIN_VALUE, Integer.MAX_VALUE};

    public static void main(String[] args) {
        newObject();
        feed();
        parse();
        oneValue();
        rowEnds();
        unknownIdentifier();
        lengthNotAsTold();
        beyondTheRow();
        beyondTheSequence();
        againstTheRule();
        tooManyValues();
        withinTooManySequences();
        sevenComesBeforeTheRest();
        bytesBehind();
        firstOffence();
        offence();
        nodeCount();
        orderOfNodes();
        noSuchNode();
        contents();
        parents();
        arcs();
        integers();
        wipe();
        lastCall();
        Check.finish();
    }

    private static String nested(int sequences, String innermost) {
        String hex = innermost;
        for (int i = 0; i < sequences; i++) {
            hex = String.format("30%02x", hex.length() / 2) + hex;
        }
        return hex;
    }

    private static String offends(String hex, int code, int place) {
        return "row:" + hex + " parse()=" + code + " offence()=" + place + " nodeCount()=0 tagOf(0)=-1";
    }

    private static String isRight(String hex, int nodes) {
        return "row:" + hex + " parse()=0 offence()=-1 nodeCount()=" + nodes;
    }

    /** A row of 300 bytes that is one value: OCTETS with 296 bytes. */
    private static String fullRow() {
        return "04820128" + "11".repeat(296);
    }

    private static void newObject() {
        Run.sentence("1: An empty row",
            "parse()=-1 offence()=0",
            "row:0500 parse()=0 contentAt(0)=2");
        Run.sentence("1: no tree",
            "nodeCount()=0 tagOf(0)=-1 contentAt(0)=-1 contentLen(0)=-1 parent(0)=-1 oidArc(0,0)=-1 intFits(0)=false intValue(0)=0");
        Run.sentence("1: an empty output",
            "outSize()=0 out(0)=-1 depth()=0 end()=-2",
            "begin(5)=0 out:05");
    }

    private static void feed() {
        for (int b = 0; b < 256; b++) {
            Run.sentence("2: A byte more in the row",
                String.format("row:0401 feed(%d)=0 parse()=0 row:00 parse()=-6 offence()=3", b),
                String.format("row:0201 feed(%d)=0 parse()=0 intValue(0)=%d", b, (byte) b));
        }
        Run.sentence("2: the tree is gone then",
            "row:020105 parse()=0 feed(0)=0 nodeCount()=0 tagOf(0)=-1 contentAt(0)=-1 contentLen(0)=-1 parent(0)=-1"
                + " intFits(0)=false intValue(0)=0",
            "row:06012a parse()=0 oidArc(0,0)=1 feed(0)=0 oidArc(0,0)=-1");
        for (int b : NO_BYTES) {
            Run.sentence("2: -1 it is not 0 .. 255 (nothing changes)",
                "feed(" + b + ")=-1 parse()=-1 offence()=0",
                "row:020105 parse()=0 feed(" + b + ")=-1 nodeCount()=1 intValue(0)=5 offence()=-1 parse()=0 intValue(0)=5",
                "row:0201 feed(" + b + ")=-1 parse()=-4 feed(" + b + ")=-1 row:07 parse()=0 intValue(0)=7",
                "row:" + fullRow() + " feed(" + b + ")=-1 parse()=0");
        }
        Run.sentence("2: -3 there are 300 (nothing changes); THE ROW has up to 300 bytes",
            "row:" + fullRow() + " feed(5)=-3 feed(0)=-3 feed(255)=-3 parse()=0 contentLen(0)=296 feed(5)=-3 nodeCount()=1"
                + " contentLen(0)=296 parse()=0",
            "row:" + fullRow().substring(2) + " feed(5)=0 feed(5)=-3",
            "row:" + "00".repeat(299) + " feed(0)=0 feed(0)=-3 parse()=-2 offence()=0 feed(0)=-3 offence()=0");
    }

    private static void parse() {
        Run.sentence("3: 0 (the tree is there)",
            "row:0500 nodeCount()=0 parse()=0 nodeCount()=1 tagOf(0)=5");
        Run.sentence("3: or its first offence (no tree is)",
            "row:020105 parse()=0 nodeCount()=1 row:00 parse()=-6 nodeCount()=0 tagOf(0)=-1 intValue(0)=0",
            "row:3006020105020000 parse()=-5 offence()=5 nodeCount()=0 tagOf(0)=-1 tagOf(1)=-1 intFits(1)=false intValue(1)=0");
        Run.sentence("3: The row stays",
            "row:3003020105 parse()=0 parse()=0 nodeCount()=2 intValue(1)=5 parse()=0 nodeCount()=2 parent(0)=-1 parent(1)=0",
            "row:02 parse()=-1 offence()=1 row:01 parse()=-4 offence()=0 row:05 parse()=0 intValue(0)=5",
            "row:0700 parse()=-2 parse()=-2 offence()=0",
            "row:" + nested(16, "0500") + " parse()=-7 parse()=-7 offence()=32");
    }

    private static void oneValue() {
        Run.sentence("It is RIGHT if it is one value",
            offends("", -1, 0),
            isRight("0500", 1),
            isRight("3000", 1),
            offends("05000500", -6, 2),
            isRight("300405000500", 3));
    }

    private static void rowEnds() {
        Run.sentence("-1 the row ends where an identifier must come (at its end)",
            offends("", -1, 0));
        Run.sentence("-1 the row ends where a byte of a length must come (at its end)",
            offends("01", -1, 1),
            offends("05", -1, 1),
            offends("30", -1, 1),
            offends("0481", -1, 2),
            offends("0482", -1, 2),
            offends("048201", -1, 3),
            offends("048200", -1, 3),
            offends("3081", -1, 2),
            offends("308201", -1, 3));
        Run.sentence("-1 is told for the row's end when nothing is around",
            "row:0500 parse()=0 wipe() row:05 parse()=-1 offence()=1",
            "row:04820101 parse()=-4 wipe() row:0482 parse()=-1 offence()=2");
    }

    private static void unknownIdentifier() {
        Run.sentence("-2 an identifier that is none of these (there)",
            offends("00", -2, 0),
            offends("07", -2, 0),
            offends("2f", -2, 0),
            offends("31", -2, 0),
            offends("81", -2, 0),
            offends("b0", -2, 0),
            offends("ff", -2, 0),
            offends("300100", -2, 2),
            offends("3004050000ff", -2, 4),
            offends("3003300131", -2, 4),
            offends("300430000700", -2, 4));
    }

    private static void lengthNotAsTold() {
        Run.sentence("-3 a length that is not as told (its first byte)",
            offends("04817f", -3, 1),
            offends("0482007f", -3, 1),
            offends("048200ff", -3, 1),
            offends("300405000481", -4, 4),
            offends("30060500048200ff", -3, 5));
        for (int lead = 0x80; lead < 256; lead++) {
            if (lead == 0x81 || lead == 0x82) {
                continue;
            }
            String hex = String.format("%02x", lead);
            Run.sentence("-3: 80, 83 and more at once, before anything behind them",
                offends("04" + hex, -3, 1),
                offends("30" + hex, -3, 1),
                offends("05" + hex + "000000", -3, 1),
                offends("300204" + hex, -3, 3),
                offends("3004300204" + hex, -3, 5));
        }
    }

    private static void beyondTheRow() {
        Run.sentence("-4 contents that go beyond the row (at the identifier)",
            isRight("040111", 1),
            offends("0401", -4, 0),
            offends("040211", -4, 0),
            offends("047f" + "11".repeat(126), -4, 0),
            offends("048180" + "11".repeat(127), -4, 0),
            offends("04820100" + "11".repeat(255), -4, 0),
            offends("04820129" + "11".repeat(296), -4, 0),
            offends("0482ffff", -4, 0),
            offends("0482ffff" + "11".repeat(296), -4, 0),
            offends("04828000", -4, 0),
            offends("3001", -4, 0),
            offends("30030500", -4, 0),
            offends("30030700", -4, 0),
            offends("0101", -4, 0),
            offends("0502", -4, 0));
    }

    private static void beyondTheSequence() {
        Run.sentence("-4 contents that go beyond the SEQUENCE around (at the identifier)",
            isRight("3003040111", 2),
            offends("300304021111", -4, 2),
            offends("3002040111", -4, 2),
            offends("3005300204010500", -4, 4),
            offends("30043003050000", -4, 2),
            offends("30040482ffff", -4, 2),
            offends("300304817f", -3, 3),
            offends("3003048180", -4, 2),
            offends("3003020200", -4, 2));
        Run.sentence("-4 or an identifier or length that does (at the identifier)",
            offends("300105", -4, 2),
            offends("30010500", -4, 2),
            offends("30010580", -4, 2),
            offends("3003050005", -4, 4),
            offends("30020481", -4, 2),
            offends("3002048180", -4, 2),
            offends("30020482", -4, 2),
            offends("30020482010000", -4, 2),
            offends("3003048201", -4, 2),
            offends("300304820100", -4, 2),
            offends("300304820001", -4, 2),
            offends("3003300105", -4, 4),
            offends("300430010500", -4, 4));
    }

    private static void againstTheRule() {
        Run.sentence("-5 plain contents against their rule (at the identifier)",
            offends("0100", -5, 0),
            offends("0200", -5, 0),
            offends("0300", -5, 0),
            offends("050100", -5, 0),
            offends("0600", -5, 0),
            isRight("0400", 1),
            isRight("3000", 1),
            offends("3003010101", -5, 2),
            offends("30050500010107", -5, 4),
            offends("058180" + "00".repeat(128), -5, 0));
    }

    private static void tooManyValues() {
        Run.sentence("-7 a value that would be the 65th (at its identifier)",
            isRight("307e" + "0500".repeat(63), 64) + " tagOf(63)=5 contentAt(63)=128 parent(63)=0 tagOf(64)=-1",
            offends("308180" + "0500".repeat(64), -7, 129),
            isRight("307e" + "3000".repeat(63), 64),
            offends("308180" + "3000".repeat(64), -7, 129),
            isRight("307e307c" + "0500".repeat(62), 64),
            offends("308180307e" + "0500".repeat(63), -7, 129),
            offends("308180" + "30020500" + "0500".repeat(62), -7, 129));
    }

    private static void withinTooManySequences() {
        Run.sentence("-7 or lie within 16 SEQUENCEs (at its identifier)",
            isRight(nested(15, "0500"), 16) + " parent(15)=14",
            isRight(nested(16, ""), 16) + " tagOf(15)=48 contentLen(15)=0",
            offends(nested(16, "0500"), -7, 32),
            offends(nested(17, ""), -7, 32),
            offends(nested(15, "050030020500"), -7, 34),
            isRight(nested(15, "300030000500"), 18),
            offends(nested(15, "3000300030020500"), -7, 36));
    }

    private static void sevenComesBeforeTheRest() {
        String many = "0500".repeat(63);
        Run.sentence("-7 before all else of it",
            offends(nested(16, "0480"), -7, 32),
            offends(nested(16, "05"), -7, 32),
            offends(nested(16, "0401"), -7, 32),
            offends(nested(16, "0481"), -7, 32),
            offends(nested(16, "010107"), -7, 32),
            offends("307f" + many + "05", -7, 128),
            offends("308180" + many + "0480", -7, 129),
            offends("308180" + many + "0401", -7, 129),
            offends("308181" + many + "010107", -7, 129));
        Run.sentence("-7 but -1, -2, and -4 for that byte",
            offends(nested(16, "07"), -2, 32),
            offends(nested(16, "0080"), -2, 32),
            offends("307f" + many + "07", -2, 128),
            offends("308180" + many + "ff00", -2, 129),
            offends(nested(15, "3001"), -4, 30),
            offends("308180" + many, -4, 0));
    }

    private static void bytesBehind() {
        Run.sentence("-6 bytes behind the value (the first one)",
            offends("050000", -6, 2),
            offends("05000500", -6, 2),
            offends("0500ff8000", -6, 2),
            offends("300005", -6, 2),
            offends("3002050007", -6, 4),
            offends("30043002050030", -6, 6),
            offends("04820127" + "11".repeat(295) + "22", -6, 299),
            offends("307e" + "0500".repeat(63) + "05", -6, 128),
            offends("307e" + "0500".repeat(63) + "0500", -6, 128),
            offends(nested(16, "") + "0500", -6, 32));
    }

    private static void firstOffence() {
        Run.sentence("values are looked at from the first byte on: identifier, length, contents",
            offends("0780", -2, 0),
            offends("01817f", -3, 1),
            offends("0182007f", -3, 1),
            offends("0180", -3, 1),
            offends("010201", -4, 0),
            offends("05010000", -5, 0),
            offends("3080", -3, 1));
        Run.sentence("(of a SEQUENCE value by value, then its end)",
            offends("30060101020700ff", -5, 2),
            offends("30040500070000", -2, 4),
            offends("300407000500", -2, 2),
            offends("30040480070000", -3, 3),
            offends("300301010500", -5, 2),
            offends("3002050100", -4, 2),
            offends("3002010000", -5, 2),
            offends("30070500050000", -4, 0));
    }

    private static void offence() {
        Run.sentence("4: Where the offence of the latest parse() was",
            "row:050000 parse()=-6 offence()=2 offence()=2 feed(0)=0 offence()=2 wipe() offence()=2 row:07 offence()=2 parse()=-2"
                + " offence()=0",
            "row:050000 parse()=-6 feed(256)=-1 offence()=2",
            "row:05 parse()=-1 offence()=1 row:80 offence()=1 parse()=-3 offence()=1 row:00 parse()=-3 offence()=1",
            "row:30820128" + "04820123" + "00".repeat(291) + "05 parse()=-4 offence()=299");
        Run.sentence("4: -1 if it had none",
            "row:0500 parse()=0 offence()=-1",
            "row:050000 parse()=-6 offence()=2 wipe() row:0500 parse()=0 offence()=-1 feed(0)=0 offence()=-1",
            "row:02 parse()=-1 offence()=1 row:0105 parse()=0 offence()=-1");
        Run.sentence("4: or there was none",
            "offence()=-1",
            "row:0700 offence()=-1 wipe() offence()=-1",
            "feed(256)=-1 offence()=-1 begin(7)=-1 offence()=-1 end()=-2 offence()=-1");
    }

    private static void nodeCount() {
        Run.sentence("5: How many nodes the tree has",
            "row:0500 parse()=0 nodeCount()=1",
            "row:3000 parse()=0 nodeCount()=1",
            "row:300405000500 parse()=0 nodeCount()=3",
            "row:307e" + "0500".repeat(63) + " parse()=0 nodeCount()=64",
            "row:" + fullRow() + " parse()=0 nodeCount()=1");
        Run.sentence("5: 0 without one",
            "nodeCount()=0",
            "row:0500 nodeCount()=0",
            "row:0500 parse()=0 row:00 nodeCount()=0",
            "row:0500 parse()=0 wipe() nodeCount()=0",
            "row:300405000501 parse()=-4 nodeCount()=0",
            "row:308180" + "0500".repeat(64) + " parse()=-7 nodeCount()=0");
    }

    private static void orderOfNodes() {
        Run.sentence("THE TREE has NODES, the values in the order of their identifiers, from 0 on",
            "row:300d" + "3007" + "020101" + "3000" + "3000" + "0500" + "0500 parse()=0 nodeCount()=7"
                + " tagOf(0)=48 tagOf(1)=48 tagOf(2)=2 tagOf(3)=48 tagOf(4)=48 tagOf(5)=5 tagOf(6)=5 tagOf(7)=-1"
                + " contentAt(1)=4 contentAt(2)=6 contentAt(3)=9 contentAt(4)=11 contentAt(5)=13 contentAt(6)=15");
    }

    private static void noSuchNode() {
        String tree = "row:300606012a020105 parse()=0 nodeCount()=3 ";
        for (int node : new int[] {-1, -2, 3, 4, 63, 64, 65, 299, 300, Integer.MIN_VALUE, Integer.MAX_VALUE}) {
            Run.sentence("6: -1 if there is no such node", tree + "tagOf(" + node + ")=-1");
            Run.sentence("6 for 7: -1 if there is no such node", tree + "contentAt(" + node + ")=-1");
            Run.sentence("6 for 8: -1 if there is no such node", tree + "contentLen(" + node + ")=-1");
            Run.sentence("6 for 9: -1 if there is no such node", tree + "parent(" + node + ")=-1");
            Run.sentence("10: -1 if the node is none", tree + "oidArc(" + node + ",0)=-1 oidArc(" + node + ",1)=-1");
            Run.sentence("11: no such node", tree + "intFits(" + node + ")=false");
            Run.sentence("12: else 0", tree + "intValue(" + node + ")=0");
        }
        String full = "row:307e" + "020105".repeat(42) + " parse()=0 nodeCount()=43 ";
        Run.sentence("6: behind the last node", full + "tagOf(42)=2 tagOf(43)=-1 contentAt(43)=-1 contentLen(43)=-1 parent(43)=-1");
        Run.sentence("6: The identifier of a node",
            "row:3012" + "0101ff" + "020105" + "030100" + "0400" + "0500" + "060100" + "3000 parse()=0 tagOf(0)=48 tagOf(1)=1"
                + " tagOf(2)=2 tagOf(3)=3 tagOf(4)=4 tagOf(5)=5 tagOf(6)=6 tagOf(7)=48 tagOf(8)=-1");
    }

    private static void contents() {
        Run.sentence("7: The place of a node's contents",
            "row:0500 parse()=0 contentAt(0)=2",
            "row:048180" + "11".repeat(128) + " parse()=0 contentAt(0)=3",
            "row:" + fullRow() + " parse()=0 contentAt(0)=4",
            "row:30820128" + "04820122" + "11".repeat(290) + "0500 parse()=0 contentAt(0)=4 contentAt(1)=8 contentAt(2)=300");
        Run.sentence("8: How many bytes a node's contents have",
            "row:0500 parse()=0 contentLen(0)=0",
            "row:047f" + "11".repeat(127) + " parse()=0 contentLen(0)=127",
            "row:048180" + "11".repeat(128) + " parse()=0 contentLen(0)=128",
            "row:30820128" + "04820122" + "11".repeat(290) + "0500 parse()=0 contentLen(0)=296 contentLen(1)=290 contentLen(2)=0");
    }

    private static void parents() {
        Run.sentence("9: The SEQUENCE around a node",
            "row:300a" + "3004" + "3000" + "0500" + "0500" + "3000 parse()=0 nodeCount()=6"
                + " parent(1)=0 parent(2)=1 parent(3)=1 parent(4)=0 parent(5)=0",
            "row:" + nested(15, "05000500") + " parse()=0 parent(1)=0 parent(14)=13 parent(15)=14 parent(16)=14");
        Run.sentence("9: -1 for the root, too",
            "row:0500 parse()=0 parent(0)=-1",
            "row:30020500 parse()=0 parent(0)=-1 parent(1)=0 parse()=0 parent(0)=-1");
    }

    private static void arcs() {
        Run.sentence("10: -1 if the node is none",
            "row:3013" + "0101ff" + "02012a" + "030100" + "04012a" + "0500" + "3000" + "06012a parse()=0 oidArc(0,0)=-1 oidArc(1,0)=-1"
                + " oidArc(2,0)=-1 oidArc(3,0)=-1 oidArc(4,0)=-1 oidArc(5,0)=-1 oidArc(6,0)=-1 oidArc(7,0)=1");
        Run.sentence("10: or has no such arc",
            "row:06012a parse()=0 oidArc(0,-1)=-1 oidArc(0,-2147483648)=-1 oidArc(0,0)=1 oidArc(0,1)=2 oidArc(0,2)=-1 oidArc(0,3)=-1"
                + " oidArc(0,2147483647)=-1",
            "row:06032a8101 parse()=0 oidArc(0,2)=129 oidArc(0,3)=-1 oidArc(0,4)=-1",
            // The next value's bytes are no parts of this one.
            "row:300606012a06012b parse()=0 oidArc(1,2)=-1 oidArc(2,1)=3");
        Run.sentence("10: -2 if it is above 2147483647",
            "row:06062a87ffffff7f parse()=0 oidArc(0,2)=2147483647",
            "row:06062a8880808000 parse()=0 oidArc(0,2)=-2 oidArc(0,1)=2 oidArc(0,3)=-1",
            "row:06062a8fffffff7f parse()=0 oidArc(0,2)=-2",
            "row:06062a9080808005 parse()=0 oidArc(0,2)=-2",
            "row:060587ffffff7f parse()=0 oidArc(0,0)=2 oidArc(0,1)=2147483567",
            "row:0605888080804f parse()=0 oidArc(0,0)=2 oidArc(0,1)=2147483647 oidArc(0,2)=-1",
            "row:06058880808050 parse()=0 oidArc(0,0)=2 oidArc(0,1)=-2 oidArc(0,2)=-1");
        for (int zeros = 3; zeros < 40; zeros++) {
            String part = "81" + "80".repeat(zeros) + "05";
            int arc = zeros == 3 ? 268435461 : -2;
            Run.sentence("10: -2 however far above",
                String.format("row:06%02x2a%s06 parse()=0 oidArc(0,2)=%d oidArc(0,3)=6 oidArc(0,4)=-1", zeros + 4, part, arc),
                String.format("row:06%02x%s06 parse()=0 oidArc(0,0)=2 oidArc(0,1)=%d oidArc(0,2)=6", zeros + 3, part,
                    arc == -2 ? arc : arc - 80));
        }
    }

    private static void integers() {
        Run.sentence("11: Whether a node is an INTEGER of at most four bytes",
            "row:020105 parse()=0 intFits(0)=true",
            "row:02047fffffff parse()=0 intFits(0)=true",
            "row:02050080000000 parse()=0 intFits(0)=false",
            "row:0205ff7fffffff parse()=0 intFits(0)=false",
            "row:3013" + "0101ff" + "02012a" + "030100" + "04012a" + "0500" + "3000" + "06012a parse()=0 intFits(0)=false"
                + " intFits(1)=false intFits(2)=true intFits(3)=false intFits(4)=false intFits(5)=false intFits(6)=false intFits(7)=false");
        Run.sentence("12: The number (with a sign) of such a node",
            "row:020100 parse()=0 intValue(0)=0",
            "row:02017f parse()=0 intValue(0)=127",
            "row:020180 parse()=0 intValue(0)=-128",
            "row:0201ff parse()=0 intValue(0)=-1",
            "row:02020080 parse()=0 intValue(0)=128",
            "row:0202ff7f parse()=0 intValue(0)=-129",
            "row:02027fff parse()=0 intValue(0)=32767",
            "row:02028000 parse()=0 intValue(0)=-32768",
            "row:0203008000 parse()=0 intValue(0)=32768",
            "row:0203ff7fff parse()=0 intValue(0)=-32769",
            "row:02037fffff parse()=0 intValue(0)=8388607",
            "row:0203800000 parse()=0 intValue(0)=-8388608",
            "row:020400800000 parse()=0 intValue(0)=8388608",
            "row:0204ff7fffff parse()=0 intValue(0)=-8388609",
            "row:02047fffffff parse()=0 intValue(0)=2147483647",
            "row:020480000000 parse()=0 intValue(0)=-2147483648");
        Run.sentence("12: else 0",
            "row:02050080000000 parse()=0 intValue(0)=0",
            "row:0205ff7fffffff parse()=0 intValue(0)=0",
            "row:0101ff parse()=0 intValue(0)=0",
            "row:040105 parse()=0 intValue(0)=0",
            "row:3003020105 parse()=0 intValue(0)=0 intValue(1)=5 intValue(2)=0 intValue(-1)=0",
            "row:020105 intValue(0)=0 parse()=0 intValue(0)=5 row:00 intValue(0)=0");
    }

    private static void wipe() {
        Run.sentence("13: The row is empty",
            "wipe() parse()=-1 offence()=0",
            "row:0500 wipe() parse()=-1 offence()=0",
            "row:0482 wipe() row:0500 parse()=0 contentAt(0)=2",
            "row:" + fullRow() + " feed(0)=-3 wipe() feed(5)=0 feed(0)=0 parse()=0 contentLen(0)=0");
        Run.sentence("13: there is no tree",
            "row:06012a parse()=0 wipe() nodeCount()=0 tagOf(0)=-1 contentAt(0)=-1 contentLen(0)=-1 parent(0)=-1 oidArc(0,0)=-1",
            "row:020105 parse()=0 wipe() intFits(0)=false intValue(0)=0");
        Run.sentence("13: and nothing of the output is touched",
            "begin(48)=0 begin(4)=0 put:0102 wipe() depth()=2 out:30040102 end()=0 end()=0 out:300404020102");
    }

    private static void lastCall() {
        Run.sentence("An object is used for at most 512 calls",
            "row:" + fullRow() + " parse()=0 contentLen(0)=296 wipe() row:" + "00".repeat(200) + " wipe() row:020105 parse()=0"
                + " nodeCount()=1 contentAt(0)=2 intFits(0)=true intValue(0)=5");
    }
}
