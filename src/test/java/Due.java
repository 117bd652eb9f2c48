import java.util.zip.CRC32;

/** What the tests share: comparing answers with those that are due, and files told in hexadecimal. */
final class Due {
    static final int HEAD = 0x1A45DFA3;
    static final int SEGMENT = 0x18538067;
    static final int VERSION = 0x4286;
    static final int TYPE = 0x4282;
    static final int TRACK = 0xAE;
    static final int NUMBER = 0xD7;
    static final int NAME = 0x536E;
    static final int CLUSTER = 0x1F43B675;
    static final int TIME = 0xE7;
    static final int BLOCK = 0xA3;
    static final int CUE = 0xBB;
    static final int WHEN = 0xB3;
    static final int WHOSE = 0xF7;
    static final int WHICH = 0xF1;
    static final int CHECK = 0xBF;
    static final int VOID = 0xEC;

    private static int asked = 0;
    private static int wrong = 0;

    private Due() {
    }

    static void is(String what, long got, long want) {
        asked++;
        if (got != want) {
            wrong++;
            System.out.println(what + " answered " + got + ", due is " + want);
        }
    }

    static void is(String what, String got, String want) {
        asked++;
        if (!got.equals(want)) {
            wrong++;
            System.out.println(what + " is " + got + ", due is " + want);
        }
    }

    static void finish() {
        System.out.println(asked + " answers, " + wrong + " of them wrong");
        if (wrong != 0) {
            System.exit(1);
        }
    }

    /** Appends the bytes that are told in hexadecimal, with blanks anywhere, in as few calls as can be. */
    static void feed(Bounded x, String hex) {
        String digits = hex.replace(" ", "");
        for (int i = 0; i + 1 < digits.length(); i += 16) {
            String some = digits.substring(i, Math.min(i + 16, digits.length()));
            x.feed(Long.parseUnsignedLong(some, 16), some.length() / 2);
        }
    }

    static Bounded fed(String hex) {
        Bounded x = new Bounded();
        feed(x, hex);
        return x;
    }

    /** The bytes of OUT in hexadecimal, without blanks. */
    static String out(Bounded x) {
        StringBuilder hex = new StringBuilder();
        for (int i = 0; x.out(i) >= 0; i++) {
            hex.append(String.format("%02X", x.out(i)));
        }
        return hex.toString();
    }

    static String plain(String hex) {
        return hex.replace(" ", "");
    }

    /** The four bytes of a CHECK of these data. */
    static String sum(String hex) {
        String digits = plain(hex);
        CRC32 crc = new CRC32();
        for (int i = 0; i + 1 < digits.length(); i += 2) {
            crc.update(Integer.parseInt(digits.substring(i, i + 2), 16));
        }
        return String.format("%08X", Integer.reverseBytes((int) crc.getValue()));
    }

    /** A SEGMENT (0) with a CLUSTER (1). */
    static Bounded withCluster() {
        Bounded x = new Bounded();
        x.make(-1, SEGMENT, 0);
        x.make(0, CLUSTER, 0);
        return x;
    }

    /** Adds a block with one frame of one byte. */
    static int addBlock(Bounded x, int cluster, int track, int time, boolean key) {
        x.frame(1, 7);
        return x.block(cluster, track, time, key, 0);
    }

    /** The IDs of the whole tree with their masters, as a text. */
    static String shape(Bounded x) {
        StringBuilder shape = new StringBuilder();
        for (int k = 0; x.id(k) >= 0; k++) {
            shape.append(String.format("%X@%d ", x.id(k), x.parent(k)));
        }
        return shape.toString().trim();
    }
}
