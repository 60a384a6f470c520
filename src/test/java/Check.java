/** What the tests share: answers that are due, and rows of bytes written as hexadecimal text. */
final class Check {
    private static int calls = 0;
    private static int wrong = 0;

    private Check() {
    }

    static void due(String call, long want, long got) {
        calls++;
        if (got != want) {
            wrong++;
            System.out.println(call + " answered " + got + ", due is " + want);
        }
    }

    static void due(String call, boolean want, boolean got) {
        due(call, want ? 1 : 0, got ? 1 : 0);
    }

    static void due(String call, String want, String got) {
        calls++;
        if (!want.equals(got)) {
            wrong++;
            System.out.println(call + " answered " + got + ", due is " + want);
        }
    }

    static void finish() {
        System.out.println(calls + " answers looked at, " + wrong + " wrong");
        if (wrong > 0 || calls == 0) {
            System.exit(1);
        }
    }

    static int[] bytes(String hex) {
        String digits = hex.replace(" ", "");
        int[] bytes = new int[digits.length() / 2];
        for (int i = 0; i < bytes.length; i++) {
            bytes[i] = Integer.parseInt(digits.substring(2 * i, 2 * i + 2), 16);
        }
        return bytes;
    }

    static String hex(int[] bytes) {
        StringBuilder text = new StringBuilder();
        for (int b : bytes) {
            text.append(String.format("%02x", b));
        }
        return text.toString();
    }

    static DerDesk fed(String hex) {
        DerDesk desk = new DerDesk();
        feed(desk, hex);
        return desk;
    }

    static void feed(DerDesk desk, String hex) {
        for (int b : bytes(hex)) {
            due("feed(" + b + ") of " + hex, 0, desk.feed(b));
        }
    }

    static DerDesk parsed(String hex) {
        DerDesk desk = fed(hex);
        due("parse() of " + hex, 0, desk.parse());
        return desk;
    }

    static String output(DerDesk desk) {
        int[] bytes = new int[desk.outSize()];
        for (int i = 0; i < bytes.length; i++) {
            bytes[i] = desk.out(i);
        }
        return hex(bytes);
    }
}
