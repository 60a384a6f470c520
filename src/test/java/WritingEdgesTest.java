/** The edges of section 3 and of promises 14 to 22, sentence by sentence. */
public final class WritingEdgesTest {
    private static final int[] PLAIN = {1, 2, 3, 4, 5, 6};
    private static final int[] NO_BYTES = {-1, 256, -128, -255, 257, 512, 0x10005, Integer.MIN_VALUE, Integer.MAX_VALUE};

    public static void main(String[] args) {
        outputOfClosedAndOpen();
        outputHas300Bytes();
        rootIsOne();
        begin();
        beginRefused();
        putByte();
        putByteRefused();
        putInt();
        putIntRefused();
        putPart();
        putPartRefused();
        end();
        endOfWrongContents();
        endWithoutRoom();
        out();
        outSize();
        depth();
        restart();
        lastCall();
        Check.finish();
    }

    private static String sequences(int count) {
        return "begin(48)=0 ".repeat(count);
    }

    /** An open SEQUENCE with so much room behind it as is told: OCTETS fill the rest. */
    private static String withRoom(int room) {
        return "begin(48)=0 begin(4)=0 put:" + "11".repeat(295 - room) + " end()=0 outSize()=" + (300 - room) + " ";
    }

    private static void outputOfClosedAndOpen() {
        Run.sentence("of values that are CLOSED the identifier, length, contents",
            "begin(5)=0 end()=0 out:0500",
            "begin(4)=0 put:aabb end()=0 out:0402aabb",
            "begin(48)=0 begin(5)=0 end()=0 begin(1)=0 put:ff end()=0 out:3005000101ff end()=0 out:300505000101ff");
        Run.sentence("of those still OPEN the identifier and what is within so far",
            "begin(4)=0 out:04 put:aa out:04aa put:bb out:04aabb",
            "begin(48)=0 out:30 begin(48)=0 out:3030 begin(2)=0 out:303002 put:05 out:30300205 end()=0 out:3030020105 end()=0"
                + " out:303003020105 end()=0 out:30053003020105");
    }

    private static void outputHas300Bytes() {
        Run.sentence("THE OUTPUT has up to 300 bytes",
            "begin(4)=0 put:" + "11".repeat(299) + " outSize()=300 putByte(17)=-3 outSize()=300 out(299)=17 out(300)=-1",
            "begin(4)=0 put:" + "11".repeat(296) + " end()=0 outSize()=300 out(0)=4 out(1)=130 out(2)=1 out(3)=40 out(4)=17 out(299)=17");
    }

    private static void rootIsOne() {
        for (int tag : new int[] {1, 2, 3, 4, 5, 6, 0x30}) {
            Run.sentence("when that is closed, nothing more can be begun",
                "begin(5)=0 end()=0 begin(" + tag + ")=-2 depth()=0 out:0500",
                "begin(48)=0 begin(5)=0 end()=0 end()=0 begin(" + tag + ")=-2 depth()=0 out:30020500",
                "begin(4)=0 put:" + "11".repeat(296) + " end()=0 begin(" + tag + ")=-2 outSize()=300");
        }
        Run.sentence("when that is closed: nothing can be put or closed, either",
            "begin(2)=0 put:05 end()=0 putByte(5)=-2 putInt(5)=-2 putPart(5)=-2 end()=-2 out:020105",
            "begin(6)=0 put:05 end()=0 putPart(5)=-2 out:060105");
    }

    private static void begin() {
        Run.sentence("14: A value is begun: 0",
            "begin(1)=0 depth()=1 out:01",
            "begin(6)=0 depth()=1 out:06",
            "begin(48)=0 begin(48)=0 begin(6)=0 depth()=3 out:303006",
            "begin(48)=0 begin(5)=0 end()=0 begin(5)=0 depth()=2 out:30050005");
        int[] noIdentifiers = {0, -1, 7, 8, 0x2F, 0x31, 0x70, 0xB0, 255, 256, 0x101, 0x130, -0xD0, Integer.MIN_VALUE,
            Integer.MAX_VALUE};
        for (int tag : noIdentifiers) {
            Run.sentence("14: -1 it is no identifier",
                "begin(" + tag + ")=-1 depth()=0 out:",
                "begin(48)=0 begin(" + tag + ")=-1 depth()=1 out:30",
                "begin(5)=0 begin(" + tag + ")=-1 depth()=1 out:05",
                "begin(5)=0 end()=0 begin(" + tag + ")=-1 out:0500",
                sequences(16) + "begin(" + tag + ")=-1 depth()=16",
                withRoom(0) + "begin(" + tag + ")=-1 outSize()=300");
        }
    }

    private static void beginRefused() {
        for (int plain : PLAIN) {
            Run.sentence("14: -2 a plain value is open",
                "begin(" + plain + ")=0 begin(5)=-2 begin(48)=-2 depth()=1 out:0" + plain,
                "begin(48)=0 begin(" + plain + ")=0 begin(" + plain + ")=-2 depth()=2 out:300" + plain,
                sequences(15) + "begin(" + plain + ")=0 begin(5)=-2 depth()=16",
                withRoom(1) + "begin(" + plain + ")=0 begin(5)=-2 depth()=2 outSize()=300");
        }
        Run.sentence("14: -2 or the root is closed",
            "begin(5)=0 end()=0 begin(5)=-2 begin(48)=-2 depth()=0 out:0500",
            "begin(5)=0 put:00 end()=-4 begin(5)=0 end()=0 begin(5)=-2 out:0500");
        Run.sentence("14: -3 16 are open",
            sequences(15) + "depth()=15 begin(48)=0 depth()=16 begin(48)=-3 begin(5)=-3 depth()=16 out:" + "30".repeat(16),
            sequences(16) + "end()=0 begin(5)=0 depth()=16 end()=0 begin(48)=0 begin(48)=-3 depth()=16");
        Run.sentence("14: -3 or the output is full",
            withRoom(1) + "begin(5)=0 depth()=2 outSize()=300 out(299)=5",
            withRoom(0) + "begin(5)=-3 begin(48)=-3 depth()=1 outSize()=300");
    }

    private static void putByte() {
        for (int b = 0; b < 256; b++) {
            Run.sentence("15: A byte more in the open value: 0",
                String.format("begin(4)=0 putByte(%d)=0 out:04%02x end()=0 out:0401%02x", b, b, b));
        }
        for (int plain : PLAIN) {
            Run.sentence("15: in the open value, whatever its rule",
                "begin(" + plain + ")=0 putByte(128)=0 putByte(255)=0 putByte(0)=0 depth()=1 out:0" + plain + "80ff00");
        }
    }

    private static void putByteRefused() {
        for (int b : NO_BYTES) {
            Run.sentence("15: -1 it is not 0 .. 255",
                "putByte(" + b + ")=-1 out:",
                "begin(4)=0 putByte(" + b + ")=-1 out:04",
                "begin(48)=0 putByte(" + b + ")=-1 out:30",
                "begin(5)=0 end()=0 putByte(" + b + ")=-1 out:0500",
                "begin(4)=0 put:" + "11".repeat(299) + " putByte(" + b + ")=-1 outSize()=300");
        }
        Run.sentence("15: -2 none is open",
            "putByte(0)=-2 putByte(255)=-2 out:",
            "begin(4)=0 end()=0 putByte(0)=-2 out:0400",
            "begin(4)=0 put:" + "11".repeat(296) + " end()=0 putByte(0)=-2 outSize()=300",
            "begin(4)=0 restart() putByte(0)=-2 out:");
        Run.sentence("15: -2 or a SEQUENCE is",
            "begin(48)=0 putByte(0)=-2 putByte(5)=-2 out:30",
            "begin(48)=0 begin(4)=0 put:11 end()=0 putByte(0)=-2 out:30040111",
            withRoom(0) + "putByte(0)=-2 outSize()=300");
        Run.sentence("15: -3 the output is full",
            "begin(4)=0 put:" + "11".repeat(298) + " putByte(0)=0 putByte(0)=-3 putByte(255)=-3 outSize()=300 depth()=1",
            withRoom(1) + "begin(5)=0 putByte(0)=-3 outSize()=300",
            withRoom(2) + "begin(5)=0 putByte(0)=0 putByte(0)=-3 outSize()=300");
    }

    private static void putInt() {
        String[] numbers = {"0:00", "1:01", "-1:ff", "127:7f", "128:0080", "-128:80", "-129:ff7f", "255:00ff", "256:0100",
            "-256:ff00", "-257:feff", "32767:7fff", "32768:008000", "-32768:8000", "-32769:ff7fff", "65535:00ffff", "65536:010000",
            "8388607:7fffff", "8388608:00800000", "-8388608:800000", "-8388609:ff7fffff", "16777216:01000000",
            "2147483647:7fffffff", "-2147483648:80000000", "-2147483647:80000001"};
        for (String number : numbers) {
            String v = number.substring(0, number.indexOf(':'));
            String contents = number.substring(number.indexOf(':') + 1);
            String value = String.format("02%02x", contents.length() / 2) + contents;
            Run.sentence("16: The fewest bytes for a number in the open value: 0",
                "begin(2)=0 putInt(" + v + ")=0 out:02" + contents + " end()=0 out:" + value,
                "begin(48)=0 begin(2)=0 putInt(" + v + ")=0 end()=0 out:30" + value + " row:" + value + " parse()=0 intValue(0)=" + v);
        }
    }

    private static void putIntRefused() {
        for (int tag : new int[] {1, 3, 4, 5, 6, 0x30}) {
            Run.sentence("16: -2 that is no INTEGER",
                "begin(" + tag + ")=0 putInt(5)=-2 out:" + String.format("%02x", tag));
        }
        Run.sentence("16: -2 none is open, so that is no INTEGER",
            "putInt(5)=-2 out:",
            "begin(2)=0 putInt(5)=0 end()=0 putInt(5)=-2 out:020105",
            "begin(48)=0 begin(2)=0 putInt(5)=0 end()=0 putInt(5)=-2 out:30020105");
        Run.sentence("16: -2 or not empty",
            "begin(2)=0 putInt(5)=0 putInt(6)=-2 out:0205",
            "begin(2)=0 putByte(0)=0 putInt(6)=-2 out:0200",
            "begin(2)=0 putInt(0)=0 putInt(0)=-2 putByte(0)=0 putInt(0)=-2 out:020000 end()=-4 out:",
            "begin(2)=0 put:" + "11".repeat(299) + " putInt(5)=-2 outSize()=300");
        String[] numbers = {"0", "128", "-32769", "2147483647"};
        for (int size = 1; size <= 4; size++) {
            for (int room = 0; room <= 5; room++) {
                int answer = size <= room ? 0 : -3;
                int outSize = 300 - room + (size <= room ? size : 0);
                Run.sentence("16: -3 no room",
                    withRoom(room + 1) + "begin(2)=0 putInt(" + numbers[size - 1] + ")=" + answer + " outSize()=" + outSize + " depth()=2"
                        + " out(" + (300 - room - 1) + ")=2");
            }
        }
        Run.sentence("16: -3 leaves the value empty",
            withRoom(2) + "begin(2)=0 putInt(128)=-3 putInt(5)=0 putInt(5)=-2 outSize()=300 out(299)=5");
    }

    private static void putPart() {
        String[] parts = {"0:00", "1:01", "39:27", "127:7f", "128:8100", "129:8101", "16383:ff7f", "16384:818000", "2097151:ffff7f",
            "2097152:81808000", "268435455:ffffff7f", "268435456:8180808000", "2147483646:87ffffff7e", "2147483647:87ffffff7f"};
        for (String part : parts) {
            String v = part.substring(0, part.indexOf(':'));
            String contents = part.substring(part.indexOf(':') + 1);
            String value = String.format("06%02x", contents.length() / 2) + contents;
            String behind = String.format("06%02x2a", contents.length() / 2 + 1) + contents;
            Run.sentence("17: A part of an OBJECT in the open value: 0",
                "begin(6)=0 putPart(" + v + ")=0 out:06" + contents + " end()=0 out:" + value,
                "begin(6)=0 putPart(42)=0 putPart(" + v + ")=0 end()=0 out:" + behind + " row:" + behind + " parse()=0 oidArc(0,2)=" + v);
        }
    }

    private static void putPartRefused() {
        for (int v : new int[] {-1, -128, Integer.MIN_VALUE, Integer.MIN_VALUE + 1}) {
            Run.sentence("17: -1 v is below 0",
                "begin(6)=0 putPart(" + v + ")=-1 out:06",
                "putPart(" + v + ")=-1 out:",
                "begin(2)=0 putPart(" + v + ")=-1 out:02",
                withRoom(1) + "begin(6)=0 putPart(" + v + ")=-1 outSize()=300");
        }
        for (int tag : new int[] {1, 2, 3, 4, 5, 0x30}) {
            Run.sentence("17: -2 that is no OBJECT",
                "begin(" + tag + ")=0 putPart(5)=-2 out:" + String.format("%02x", tag),
                withRoom(1) + "begin(" + tag + ")=0 putPart(5)=-2 outSize()=300");
        }
        Run.sentence("17: -2 none is open, so that is no OBJECT",
            "putPart(5)=-2 out:",
            "begin(6)=0 putPart(5)=0 end()=0 putPart(5)=-2 out:060105");
        String[] parts = {"127", "128", "16384", "2097152", "2147483647"};
        for (int size = 1; size <= 5; size++) {
            for (int room = 0; room <= 6; room++) {
                int answer = size <= room ? 0 : -3;
                int outSize = 300 - room + (size <= room ? size : 0);
                Run.sentence("17: -3 no room",
                    withRoom(room + 1) + "begin(6)=0 putPart(" + parts[size - 1] + ")=" + answer + " outSize()=" + outSize + " depth()=2"
                        + " out(" + (300 - room - 1) + ")=6");
            }
        }
    }

    private static void end() {
        Run.sentence("18: The innermost open value is closed: 0",
            "begin(48)=0 begin(48)=0 begin(5)=0 end()=0 depth()=2 out:30300500 end()=0 depth()=1 out:3030020500 end()=0 depth()=0"
                + " out:300430020500",
            "begin(48)=0 begin(4)=0 put:" + "11".repeat(125) + " end()=0 end()=0 outSize()=129 out(0)=48 out(1)=127 out(2)=4",
            "begin(48)=0 begin(4)=0 put:" + "11".repeat(126) + " end()=0 end()=0 outSize()=131 out(0)=48 out(1)=129 out(2)=128 out(3)=4"
                + " out(4)=126",
            "begin(48)=0 begin(4)=0 put:" + "11".repeat(253) + " end()=0 end()=0 outSize()=260 out(1)=130 out(2)=1 out(3)=0 out(4)=4",
            "begin(48)=0 begin(4)=0 put:" + "11".repeat(252) + " end()=0 end()=0 outSize()=258 out(1)=129 out(2)=255 out(3)=4");
        Run.sentence("18: -2 none is open",
            "end()=-2 depth()=0 out:",
            "begin(5)=0 end()=0 end()=-2 end()=-2 out:0500",
            "begin(5)=0 put:00 end()=-4 end()=-2 out:",
            "begin(48)=0 restart() end()=-2");
    }

    private static void endOfWrongContents() {
        Run.sentence("18: -4 its contents are against their rule: it is gone, with its identifier",
            "begin(2)=0 end()=-4 depth()=0 out:",
            "begin(48)=0 begin(5)=0 end()=0 begin(1)=0 put:0102 end()=-4 depth()=1 out:300500 begin(5)=0 end()=0 end()=0 out:300405000500",
            sequences(15) + "begin(6)=0 end()=-4 depth()=15 outSize()=15 out(15)=-1 begin(5)=0 depth()=16");
        Run.sentence("18: a root that is gone was not closed",
            "begin(6)=0 put:80 end()=-4 begin(48)=0 depth()=1 out:30 end()=0 out:3000 begin(48)=-2",
            "begin(1)=0 put:" + "11".repeat(299) + " end()=-4 outSize()=0 begin(4)=0 put:22 end()=0 out:040122");
        Run.sentence("18: -4 comes before -3",
            withRoom(1) + "begin(2)=0 outSize()=300 end()=-4 outSize()=299 depth()=1",
            withRoom(2) + "begin(5)=0 put:00 outSize()=300 end()=-4 outSize()=298 depth()=1",
            "begin(6)=0 put:" + "01".repeat(298) + " end()=-3 outSize()=299 putByte(128)=0 end()=-4 outSize()=0 depth()=0");
    }

    private static void endWithoutRoom() {
        String nothingChanges = "18: -3 no room for its length (nothing changes)";
        Run.sentence(nothingChanges + ", one byte",
            withRoom(1) + "begin(5)=0 end()=-3 outSize()=300 depth()=2 out(299)=5 end()=-3 putByte(0)=-3",
            withRoom(2) + "begin(5)=0 end()=0 outSize()=300 depth()=1 out(298)=5 out(299)=0");
        for (int length : new int[] {128, 255}) {
            for (int room = 0; room <= 3; room++) {
                endsWithRoom(nothingChanges + ", two bytes", length, room, 2);
            }
        }
        for (int length : new int[] {256, 280}) {
            for (int room = 0; room <= 4; room++) {
                endsWithRoom(nothingChanges + ", three bytes", length, room, 3);
            }
        }
        endsWithRoom(nothingChanges + ", one byte for 127", 127, 0, 1);
        endsWithRoom(nothingChanges + ", one byte for 127", 127, 1, 1);
        Run.sentence(nothingChanges + ", of a SEQUENCE",
            withRoom(3) + "end()=0 outSize()=300 depth()=0 out(1)=130 out(2)=1 out(3)=40",
            withRoom(2) + "end()=-3 outSize()=298 depth()=1 out(1)=4 begin(5)=0 end()=0 outSize()=300 end()=-3 depth()=1",
            withRoom(0) + "end()=-3 outSize()=300 depth()=1");
        Run.sentence(nothingChanges + ", of the root",
            "begin(4)=0 put:" + "11".repeat(297) + " end()=-3 outSize()=298 depth()=1 out(1)=17 putByte(34)=0 out(298)=34 end()=-3",
            "begin(4)=0 put:" + "11".repeat(299) + " end()=-3 outSize()=300 depth()=1 out(299)=17");
    }

    /** OCTETS of this length, closed with so much room left behind them; the SEQUENCE around has what fills the rest. */
    private static void endsWithRoom(String sentence, int length, int room, int lengthSize) {
        int filler = 300 - room - length - 1 - 1;
        String fill = "";
        // NULLs fill an even number of bytes; OCTETS with one byte make it odd.
        if (filler % 2 == 1) {
            fill = "begin(4)=0 put:33 end()=0 ";
            filler -= 3;
        }
        fill += "begin(5)=0 end()=0 ".repeat(filler / 2);
        boolean fits = lengthSize <= room;
        int place = 300 - room - length - 1;
        Run.sentence(sentence,
            "begin(48)=0 " + fill + "begin(4)=0 put:" + "11".repeat(length) + " outSize()=" + (300 - room)
                + (fits
                    ? " end()=0 depth()=1 outSize()=" + (300 - room + lengthSize) + " out(" + (place + lengthSize + 1) + ")=17"
                    : " end()=-3 depth()=2 outSize()=" + (300 - room) + " out(" + (place + 1) + ")=17")
                + " out(" + place + ")=4");
    }

    private static void out() {
        Run.sentence("19: Byte i of the output",
            "begin(4)=0 out(0)=4 put:00ff out(1)=0 out(2)=255 end()=0 out(0)=4 out(1)=2 out(2)=0 out(3)=255",
            "begin(4)=0 put:" + "11".repeat(298) + "22 out(299)=34");
        for (int i : new int[] {-1, -2, 3, 4, 299, 300, 301, Integer.MIN_VALUE, Integer.MAX_VALUE}) {
            Run.sentence("19: -1 if there is none",
                "out(" + i + ")=-1",
                "begin(4)=0 put:1122 out(" + i + ")=-1",
                "begin(4)=0 put:" + "11".repeat(200) + " restart() begin(4)=0 put:1122 out(" + i + ")=-1");
        }
        Run.sentence("19: -1 if there is none, any more",
            "begin(5)=0 end()=0 restart() out(0)=-1 out(1)=-1",
            "begin(48)=0 begin(1)=0 put:11 end()=-4 out(0)=48 out(1)=-1 out(2)=-1",
            "begin(4)=0 put:" + "11".repeat(299) + " out(299)=17 out(300)=-1");
    }

    private static void outSize() {
        Run.sentence("20: How many bytes the output has",
            "outSize()=0 begin(48)=0 outSize()=1 begin(2)=0 outSize()=2 putInt(-129)=0 outSize()=4 end()=0 outSize()=5 end()=0 outSize()=6",
            "begin(6)=0 putPart(128)=0 outSize()=3 putPart(-1)=-1 outSize()=3 end()=0 outSize()=4 restart() outSize()=0",
            "begin(4)=0 put:" + "11".repeat(127) + " outSize()=128 end()=0 outSize()=129",
            "begin(4)=0 put:" + "11".repeat(128) + " outSize()=129 end()=0 outSize()=131",
            "begin(4)=0 put:" + "11".repeat(256) + " outSize()=257 end()=0 outSize()=260",
            "begin(4)=0 put:" + "11".repeat(299) + " outSize()=300");
    }

    private static void depth() {
        Run.sentence("21: How many values are open",
            "depth()=0 begin(48)=0 depth()=1 begin(5)=0 depth()=2 begin(5)=-2 depth()=2 end()=0 depth()=1 begin(2)=0 depth()=2 end()=-4"
                + " depth()=1 end()=0 depth()=0 end()=-2 depth()=0",
            sequences(16) + "depth()=16 begin(48)=-3 depth()=16 " + "end()=0 ".repeat(15) + "depth()=1 end()=0 depth()=0",
            withRoom(1) + "begin(5)=0 depth()=2 end()=-3 depth()=2 restart() depth()=0");
    }

    private static void restart() {
        Run.sentence("22: The output is empty",
            "restart() out:",
            "begin(48)=0 begin(4)=0 put:1122 restart() out:",
            "begin(5)=0 end()=0 restart() out: begin(4)=0 put:33 end()=0 out:040133",
            "begin(4)=0 put:" + "11".repeat(299) + " restart() outSize()=0 out(0)=-1 out(299)=-1 begin(4)=0 putByte(1)=0 out:0401");
        Run.sentence("22: nothing is open",
            sequences(16) + "restart() depth()=0 end()=-2 putByte(0)=-2 " + sequences(16) + "depth()=16 begin(5)=-3",
            "begin(2)=0 restart() putInt(5)=-2 begin(6)=0 restart() putPart(5)=-2 depth()=0");
        Run.sentence("22: and nothing of the row is touched",
            "row:020105 parse()=0 begin(5)=0 restart() nodeCount()=1 intValue(0)=5 parse()=0",
            "row:050000 parse()=-6 restart() offence()=2 parse()=-6");
    }

    private static void lastCall() {
        Run.sentence("An object is used for at most 512 calls",
            "begin(4)=0 put:" + "11".repeat(299) + " putByte(0)=-3 end()=-3 outSize()=300 restart() begin(4)=0 put:" + "22".repeat(200)
                + " end()=0 outSize()=203 out(0)=4 out(1)=129 out(2)=200 out(3)=34 out(202)=34");
    }
}
