/** The edges of the section 'Terms', sentence by sentence: each in the reader and in the writer. */
public final class TermsEdgesTest {
    private static final int BOOLEAN = 1;
    private static final int INTEGER = 2;
    private static final int BITS = 3;
    private static final int OCTETS = 4;
    private static final int NULL = 5;
    private static final int OBJECT = 6;
    private static final int SEQUENCE = 0x30;

    public static void main(String[] args) {
        identifiers();
        contentsOfASequence();
        lengthsBelow128();
        lengthsFrom128();
        shortestLengths();
        booleans();
        integers();
        bits();
        octets();
        nulls();
        objects();
        arcsOfTheFirstPart();
        arcsOfOtherParts();
        Check.finish();
    }

    private static String lengthOf(int length) {
        if (length < 128) {
            return String.format("%02x", length);
        }
        return length < 256 ? String.format("81%02x", length) : String.format("82%04x", length);
    }

    private static String value(int tag, String contents) {
        return String.format("%02x", tag) + lengthOf(contents.length() / 2) + contents;
    }

    /** Contents that their rule allows: a row of them is a tree, and a value of them can be closed. */
    private static void right(String sentence, int tag, String... all) {
        for (String contents : all) {
            String value = value(tag, contents);
            int length = contents.length() / 2;
            Run.sentence(sentence,
                "row:" + value + " parse()=0 offence()=-1 nodeCount()=1 tagOf(0)=" + tag + " contentLen(0)=" + length,
                "row:" + value(SEQUENCE, "0500" + value) + " parse()=0 nodeCount()=3 tagOf(2)=" + tag + " contentLen(2)=" + length,
                "begin(" + tag + ")=0 put:" + contents + " end()=0 depth()=0 outSize()=" + value.length() / 2,
                "begin(48)=0 begin(" + tag + ")=0 put:" + contents + " end()=0 depth()=1 outSize()=" + (1 + value.length() / 2));
        }
    }

    /** Contents against their rule: a row of them is offence -5 at the identifier, and a value of them goes. */
    private static void wrong(String sentence, int tag, String... all) {
        for (String contents : all) {
            String value = value(tag, contents);
            String around = value(SEQUENCE, "0500" + value);
            int place = (around.length() - value.length()) / 2;
            Run.sentence(sentence,
                "row:" + value + " parse()=-5 offence()=0 nodeCount()=0 tagOf(0)=-1",
                "row:" + around + " parse()=-5 offence()=" + place + " nodeCount()=0",
                "begin(" + tag + ")=0 put:" + contents + " end()=-4 depth()=0 out:",
                "begin(48)=0 begin(" + tag + ")=0 put:" + contents + " end()=-4 depth()=1 out:30");
        }
    }

    private static void identifiers() {
        String sentence = "Identifiers (hexadecimal): 01 .. 06, 30";
        for (int tag = 0; tag < 256; tag++) {
            boolean known = tag >= 1 && tag <= 6 || tag == 0x30;
            String hex = String.format("%02x", tag);
            Run.sentence(sentence,
                "row:" + hex + " parse()=" + (known ? "-1 offence()=1" : "-2 offence()=0"),
                "row:3003" + hex + "8000 parse()=" + (known ? "-3 offence()=3" : "-2 offence()=2"),
                "begin(" + tag + ")=" + (known ? "0 depth()=1 out:" + hex : "-1 depth()=0 out:"));
        }
    }

    private static void contentsOfASequence() {
        Run.sentence("the contents of a SEQUENCE are values, one behind the other",
            "row:3000 parse()=0 nodeCount()=1 contentAt(0)=2 contentLen(0)=0",
            "row:30020500 parse()=0 nodeCount()=2 parent(1)=0",
            "row:300405003000 parse()=0 nodeCount()=3 parent(1)=0 parent(2)=0",
            "row:300100 parse()=-2 offence()=2",
            "row:3003050000 parse()=-2 offence()=4",
            "begin(48)=0 end()=0 out:3000",
            "begin(48)=0 begin(5)=0 end()=0 begin(48)=0 end()=0 end()=0 out:300405003000");
        Run.sentence("the others are PLAIN",
            "row:04020500 parse()=0 nodeCount()=1 contentLen(0)=2",
            "row:040107 parse()=0 nodeCount()=1",
            "begin(4)=0 begin(5)=-2 put:0500 end()=0 out:04020500");
    }

    private static void lengthsBelow128() {
        String sentence = "A LENGTH below 128 is one byte";
        for (int length : new int[] {0, 1, 126, 127}) {
            String contents = "81".repeat(length);
            String row = String.format("04%02x", length) + contents;
            Run.sentence(sentence,
                "row:" + row + " parse()=0 contentAt(0)=2 contentLen(0)=" + length,
                "begin(4)=0 put:" + contents + " end()=0 out:" + row);
        }
    }

    private static void lengthsFrom128() {
        String sentence = "else the first byte is 81 or 82, with one or two bytes behind it that are the length";
        for (int length : new int[] {128, 129, 254, 255}) {
            String contents = "82".repeat(length);
            Run.sentence(sentence,
                "row:" + String.format("0481%02x", length) + contents + " parse()=0 contentAt(0)=3 contentLen(0)=" + length,
                "begin(4)=0 put:" + contents + " end()=0 out(0)=4 out(1)=129 out(2)=" + length + " out(3)=130"
                    + " outSize()=" + (length + 3));
        }
        for (int length : new int[] {256, 257, 295, 296}) {
            String contents = "83".repeat(length);
            Run.sentence(sentence,
                "row:" + String.format("0482%04x", length) + contents + " parse()=0 contentAt(0)=4 contentLen(0)=" + length,
                "begin(4)=0 put:" + contents + " end()=0 out(0)=4 out(1)=130 out(2)=1 out(3)=" + (length - 256)
                    + " out(4)=131 outSize()=" + (length + 4));
        }
        Run.sentence("(the highest byte first)",
            "row:04820001" + "00".repeat(256) + " parse()=-3 offence()=1",
            "row:04822801" + "00".repeat(296) + " parse()=-4 offence()=0");
    }

    private static void shortestLengths() {
        String sentence = "of these the shortest one";
        for (String length : new String[] {"8100", "8101", "817f", "820000", "820001", "82007f", "820080", "8200ff"}) {
            String row = "04" + length + "00".repeat(255);
            Run.sentence(sentence,
                "row:" + row + " parse()=-3 offence()=1 nodeCount()=0",
                "row:3082" + String.format("%04x", row.length() / 2) + row + " parse()=-3 offence()=5");
        }
        for (String length : new String[] {"8180", "81ff"}) {
            Run.sentence(sentence, "row:04" + length + " parse()=-4 offence()=0");
        }
        Run.sentence(sentence, "row:04820100 parse()=-4 offence()=0", "row:0482ffff parse()=-4 offence()=0");
    }

    private static void booleans() {
        String sentence = "BOOLEAN is one byte, 00 or FF";
        right(sentence, BOOLEAN, "00", "ff");
        wrong(sentence, BOOLEAN, "", "0000", "ffff", "00ff", "000000");
        for (int b = 1; b < 255; b++) {
            wrong(sentence, BOOLEAN, String.format("%02x", b));
        }
    }

    private static void integers() {
        wrong("INTEGER has one byte at least", INTEGER, "");
        for (int b = 0; b < 256; b++) {
            right("INTEGER has one byte at least", INTEGER, String.format("%02x", b));
        }
        String nineZeros = "if more, the first nine bits are not all 0";
        wrong(nineZeros, INTEGER, "0000", "0001", "007f", "000000", "007fff", "00" + "00".repeat(100));
        right(nineZeros, INTEGER, "0080", "00ff", "0100", "0180", "008000", "010000", "0080" + "00".repeat(100));
        String nineOnes = "and not all 1";
        wrong(nineOnes, INTEGER, "ff80", "ff81", "ffff", "ff8000", "ffffff", "ff" + "ff".repeat(100));
        right(nineOnes, INTEGER, "ff00", "ff7f", "feff", "fe80", "ff7fff", "7fff", "80ff", "ff7f" + "ff".repeat(100));
    }

    private static void bits() {
        wrong("BITS has one byte at least", BITS, "");
        String first = "the first one 0 to 7, UNUSED";
        for (int unused = 0; unused <= 7; unused++) {
            right(first, BITS, String.format("%02x00", unused), String.format("%02xffff00", unused));
        }
        wrong(first, BITS, "0800", "0900", "1000", "2000", "8000", "ff00", "080000", "08" + "00".repeat(40));
        right("if it is alone, 0", BITS, "00");
        wrong("if it is alone, 0", BITS, "01", "02", "03", "04", "05", "06", "07", "08", "80", "ff");
        String lowest = "the lowest UNUSED bits of the last byte are 0";
        for (int unused = 0; unused <= 7; unused++) {
            int allBut = 0xFF << unused & 0xFF;
            right(lowest, BITS, String.format("%02x%02x", unused, allBut), String.format("%02x%02x", unused, 1 << unused),
                String.format("%02xff%02x", unused, allBut));
            for (int bit = 0; bit < unused; bit++) {
                wrong(lowest, BITS, String.format("%02x%02x", unused, 1 << bit), String.format("%02x00%02x", unused, allBut | 1 << bit));
            }
        }
    }

    private static void octets() {
        right("OCTETS are any", OCTETS, "", "00", "ff", "80", "0000", "ffff", "0500", "8080");
        for (int b = 0; b < 256; b++) {
            right("OCTETS are any", OCTETS, String.format("%02x", b));
        }
    }

    private static void nulls() {
        right("NULL has none", NULL, "");
        wrong("NULL has none", NULL, "00", "05", "ff", "0000", "00".repeat(128));
    }

    private static void objects() {
        wrong("OBJECT has one byte at least", OBJECT, "");
        String last = "the last one below 80";
        right(last, OBJECT, "00", "01", "7f", "8100", "817f", "007f", "ff7f", "ff".repeat(100) + "7f");
        wrong(last, OBJECT, "81", "ff", "0081", "7f81", "00ff", "8181", "ff".repeat(100));
        String none = "none begins with 80";
        wrong(none, OBJECT, "80", "8000", "8001", "807f", "0080", "008000", "008001", "7f8001", "810080", "81008001", "018080",
            "808001", "00".repeat(60) + "8001");
        right(none, OBJECT, "8100", "818000", "81808001", "ff807f", "01818001", "00818000", "7f8100");
    }

    private static void arcsOfTheFirstPart() {
        Run.sentence("the first part v gives two arcs: 0 and v if v is below 40",
            "row:060100 parse()=0 oidArc(0,0)=0 oidArc(0,1)=0 oidArc(0,2)=-1",
            "row:060127 parse()=0 oidArc(0,0)=0 oidArc(0,1)=39 oidArc(0,2)=-1");
        Run.sentence("1 and v - 40 if it is below 80",
            "row:060128 parse()=0 oidArc(0,0)=1 oidArc(0,1)=0 oidArc(0,2)=-1",
            "row:06014f parse()=0 oidArc(0,0)=1 oidArc(0,1)=39 oidArc(0,2)=-1");
        Run.sentence("else 2 and v - 80",
            "row:060150 parse()=0 oidArc(0,0)=2 oidArc(0,1)=0 oidArc(0,2)=-1",
            "row:06017f parse()=0 oidArc(0,0)=2 oidArc(0,1)=47 oidArc(0,2)=-1",
            "row:06028100 parse()=0 oidArc(0,0)=2 oidArc(0,1)=48 oidArc(0,2)=-1",
            "row:06028120 parse()=0 oidArc(0,0)=2 oidArc(0,1)=80 oidArc(0,2)=-1");
    }

    private static void arcsOfOtherParts() {
        Run.sentence("a part is a number, of seven bits of each byte, the highest first",
            "row:06032a8648 parse()=0 oidArc(0,2)=840 oidArc(0,3)=-1",
            "row:06032a8100 parse()=0 oidArc(0,2)=128",
            "row:06032aff7f parse()=0 oidArc(0,2)=16383",
            "row:06042a818000 parse()=0 oidArc(0,2)=16384",
            "row:06052a81808001 parse()=0 oidArc(0,2)=2097153");
        Run.sentence("each other part one",
            "row:060400274f7f parse()=0 oidArc(0,2)=39 oidArc(0,3)=79 oidArc(0,4)=127 oidArc(0,5)=-1",
            "row:06067f8100008101 parse()=0 oidArc(0,2)=128 oidArc(0,3)=0 oidArc(0,4)=129 oidArc(0,5)=-1",
            "row:0681c8" + "05".repeat(200) + " parse()=0 oidArc(0,200)=5 oidArc(0,201)=-1");
    }
}
