/** The edges in 'Terms' of what each kind of data may be: numbers, texts, CHECKs, blocks and their lacings. */
public final class DataEdgeTest {
    private static final String HEAD = Edge.HEAD;
    private static final String SEGMENT = Edge.SEGMENT;
    private static final String CLUSTER = Edge.CLUSTER;
    private static final String OPEN_CLUSTER = SEGMENT + "FF " + CLUSTER + "FF ";

    public static void main(String[] args) {
        numbers();
        numbersWrap();
        texts();
        codes();
        zerosBehind();
        checkSizes();
        checkSums();
        checkedData();
        tracks();
        times();
        flags();
        heads();
        howManyFrames();
        unlaced();
        lacedByBytes();
        lacedEvenly();
        lacedFirstSizes();
        lacedDifferences();
        lacedDifferencesTooFar();
        noVintBeginsWith0();
        Due.finish();
    }

    // "A NUMBER's data are 0 to 8 bytes."
    private static void numbers() {
        String[][] all = {{"4286", "1A45DFA3", ""}, {"D7", "AE", "18538067"}, {"E7", "1F43B675", "18538067"},
            {"B3", "BB", "18538067"}, {"F7", "BB", "18538067"}, {"F1", "BB", "18538067"}};
        for (String[] one : all) {
            for (int size = 0; size <= 10; size++) {
                String number = Edge.element(one[0], "01".repeat(size));
                String master = Edge.element(one[1], number);
                String hex = one[2].isEmpty() ? master : Edge.element(one[2], master);
                int where = Due.plain(hex).length() / 2 - Due.plain(number).length() / 2;
                if (size <= 8) {
                    Bounded x = Edge.made(y -> Due.feed(y, hex));
                    int elements = one[2].isEmpty() ? 2 : 3;
                    Due.is("read() of " + hex, x.read(), elements);
                    long due = size == 0 ? 0 : Long.parseLong("01".repeat(size), 16);
                    Due.is("number of " + hex, x.value(elements - 1), due);
                } else {
                    Edge.fault(hex, ElementFiles.DATA, where);
                }
            }
        }
    }

    private static void number(String data, long due) {
        Bounded x = Edge.good(Edge.element(HEAD, Edge.element("4286", data)), "1A45DFA3@-1 4286@0");
        Due.is("number " + data, x.value(1), due);
        Due.is("part of a number", x.part(1, 0), ElementFiles.NONE);
    }

    // ".. which make a number, highest first (a long, wrapping)."
    private static void numbersWrap() {
        number("", 0);
        number("00", 0);
        number("FF", 255);
        number("0001", 1);
        number("0100", 256);
        number("FFFFFFFFFFFFFF", (1L << 56) - 1);
        number("00FFFFFFFFFFFFFF", (1L << 56) - 1);
        number("7FFFFFFFFFFFFFFF", Long.MAX_VALUE);
        number("8000000000000000", Long.MIN_VALUE);
        number("8000000000000001", Long.MIN_VALUE + 1);
        number("FFFFFFFFFFFFFFFF", -1);
    }

    private static void text(String data, int letters) {
        String[] files = {Edge.element(HEAD, Edge.element("4282", data)),
            Edge.element(SEGMENT, Edge.element("AE", Edge.element("536E", data)))};
        for (int i = 0; i < files.length; i++) {
            if (letters < 0) {
                int size = Due.plain(files[i]).length() / 2;
                int own = Due.plain(Edge.element("4282", data)).length() / 2;
                Edge.fault(files[i], ElementFiles.DATA, size - own);
            } else {
                Bounded x = Edge.made(fed(files[i]));
                Due.is("read() of text " + data, x.read(), 2 + i);
                Due.is("letters of text " + data, x.value(1 + i), letters);
                Due.is("letter behind those of " + data, x.part(1 + i, letters), ElementFiles.NONE);
            }
        }
    }

    private static Edge.Run fed(String hex) {
        return x -> Due.feed(x, hex);
    }

    // "A TEXT's data are its at most 16 letters .."
    private static void texts() {
        text("", 0);
        text("41", 1);
        text("41".repeat(15), 15);
        text("41".repeat(16), 16);
        text("41".repeat(17), -1);
        text("41".repeat(100), -1);
        Bounded x = Edge.made(fed(Edge.element(HEAD, Edge.element("4282", "41".repeat(15) + "5A"))));
        x.read();
        Due.is("the 16th letter", x.part(1, 15), 'Z');
    }

    // ".. with codes 32 .. 126 .."
    private static void codes() {
        for (int code = 0; code < 256; code++) {
            String data = String.format("%02X", code);
            text(data, code == 0 ? 0 : code >= 32 && code <= 126 ? 1 : -1);
            text("41" + data, code == 0 ? 1 : code >= 32 && code <= 126 ? 2 : -1);
        }
    }

    // ".. and behind them any number of bytes 0."
    private static void zerosBehind() {
        text("00", 0);
        text("00".repeat(600), 0);
        text("41" + "00".repeat(15), 1);
        text("41" + "00".repeat(16), 1);
        text("41" + "00".repeat(600), 1);
        text("41".repeat(16) + "00", 16);
        text("41".repeat(16) + "00".repeat(600), 16);
        text("41".repeat(17) + "00", -1);
        text("0041", -1);
        text("410041", -1);
        text("41".repeat(15) + "0041", -1);
        text("41".repeat(16) + "00".repeat(100) + "41", -1);
        text("41" + "00".repeat(100) + "01", -1);
    }

    // "A CHECK's data are 4 bytes." "DATA .. (for a CHECK: not 4 bytes ..)"
    private static void checkSizes() {
        for (int size = 0; size <= 9; size++) {
            String check = Edge.element("BF", "00".repeat(size));
            if (size == 4) {
                Edge.good(Edge.element(HEAD, check), "1A45DFA3@-1 BF@0");
                Edge.good(Edge.element(SEGMENT, Edge.element("AE", check)), "18538067@-1 AE@0 BF@1");
                Edge.good(Edge.element(SEGMENT, Edge.element("BB", check)), "18538067@-1 BB@0 BF@1");
            } else {
                Edge.fault(Edge.element(HEAD, check), ElementFiles.DATA, 5);
                Edge.fault(Edge.element(SEGMENT, Edge.element("AE", check)), ElementFiles.DATA, 7);
                Edge.fault(Edge.element(SEGMENT, Edge.element("BB", check)), ElementFiles.DATA, 7);
            }
        }
    }

    // ".. lowest first, the SUM .." "DATA .. (for a CHECK: .. or not the sum)"
    private static void checkSums() {
        String behind = "4286 81 07";
        String sum = Due.sum(behind);
        Edge.good(Edge.element(HEAD, "BF84" + sum + behind), "1A45DFA3@-1 BF@0 4286@0");
        for (int bit = 0; bit < 32; bit++) {
            String other = String.format("%08X", (int) Long.parseLong(sum, 16) ^ (1 << bit));
            Edge.fault(Edge.element(HEAD, "BF84" + other + behind), ElementFiles.DATA, 5);
        }
        String turned = String.format("%08X", Integer.reverseBytes((int) Long.parseLong(sum, 16)));
        Edge.fault(Edge.element(HEAD, "BF84" + turned + behind), ElementFiles.DATA, 5);
        // The well-known sum of the nine bytes 31 .. 39 is CBF43926; they are no element, so that the
        // fault behind the CHECK shows that its sum was right.
        String nine = "313233343536373839";
        Edge.fault(Edge.element(HEAD, "BF84 2639F4CB" + nine), ElementFiles.CUT, 11);
        Edge.fault(Edge.element(HEAD, "BF84 2639F4CA" + nine), ElementFiles.DATA, 5);
        // Each byte counts with all its bits.
        for (int b = 0; b < 256; b++) {
            String one = "8181" + String.format("%02X", b);
            Edge.good(Edge.element(HEAD, "BF84" + Due.sum(one) + one), "1A45DFA3@-1 BF@0 81@0");
        }
    }

    // ".. of the data that stand behind it in its master."
    private static void checkedData() {
        // Nothing behind it.
        Edge.good(Edge.element(HEAD, "BF84 00000000") + "EC80", "1A45DFA3@-1 BF@0 EC@-1");
        // All that is behind it in its master, and nothing behind the master.
        String two = "8181 05 EC80";
        Edge.good(Edge.element(HEAD, "BF84" + Due.sum(two) + two) + "8180", "1A45DFA3@-1 BF@0 81@0 EC@0 81@-1");
        Edge.fault(Edge.element(HEAD, "BF84" + Due.sum("8181 05") + two), ElementFiles.DATA, 5);
        Edge.fault(Edge.element(HEAD, "BF84" + Due.sum(two + "8180") + two) + "8180", ElementFiles.DATA, 5);
        // In a SEGMENT of unknown size, too, the TRACK's own data count.
        String track = Edge.element("AE", "BF84" + Due.sum(two) + two);
        Edge.good(SEGMENT + "FF" + track + "8180", "18538067@-1 AE@0 BF@1 81@1 EC@1 81@0");
        // The most data that IN can have behind a CHECK.
        String most = Edge.element("81", "5A".repeat(625));
        Edge.good(Edge.element(HEAD, "BF84" + Due.sum(most) + most), "1A45DFA3@-1 BF@0 81@0");
    }

    /** Reads the data as a BLOCK at place 10; answers null when it is a fault, as it has to be when told. */
    private static Bounded block(String data, boolean good) {
        String hex = OPEN_CLUSTER + Edge.element("A3", data);
        if (good) {
            return Edge.good(hex, "18538067@-1 1F43B675@0 A3@1");
        }
        Edge.fault(hex, ElementFiles.DATA, 10);
        return null;
    }

    // "A BLOCK's data: a vint (of any length when it is read), the TRACK, 1 .. 126."
    private static void tracks() {
        for (int length = 1; length <= 8; length++) {
            for (int track : new int[] {0, 1, 2, 125, 126, 127}) {
                boolean good = track >= 1 && track <= 126;
                Bounded x = block(Edge.vint(track, length) + "0000 00", good);
                if (x != null) {
                    Due.is("track", x.detail(2, 0), track);
                }
            }
            block(Edge.ones(length) + "0000 00", false);
            for (int bit = 7; bit < 7 * length; bit++) {
                block(Edge.vint((1L << bit) + 1, length) + "0000 00", false);
            }
            String whole = Edge.vint(1, length);
            block(whole.substring(0, whole.length() - 2), false);
            block(whole, false);
        }
        block("00 01 0000 00", false);
        block("00 8000000000000001 0000 00", false);
    }

    // "two bytes, the TIME, from -32768 to 32767 (as 16 bits with sign, highest first)."
    private static void times() {
        int[] times = {-32768, -32767, -256, -255, -1, 0, 1, 255, 256, 32766, 32767};
        for (int time : times) {
            Bounded x = block("81" + String.format("%04X", time & 0xFFFF) + "00", true);
            Due.is("time " + time, x.detail(2, 1), time);
            Due.is("write()", x.write(true), 16);
            Due.is("its bytes", x.out(13) * 256 + x.out(14), time & 0xFFFF);
        }
    }

    // "a byte, 128 when it is a KEY block, plus 2 * its LACING."
    private static void flags() {
        for (int flags = 0; flags < 256; flags++) {
            int lacing = (flags & 127) / 2;
            boolean good = flags % 2 == 0 && lacing <= 3;
            Bounded x = block("81 0000" + String.format("%02X", flags) + "00 00", good);
            if (x != null) {
                Due.is("key of " + flags, x.detail(2, 2), flags / 128);
                Due.is("lacing of " + flags, x.detail(2, 3), lacing);
                Due.is("frames of " + flags, x.value(2), 1);
                Due.is("size of " + flags, x.part(2, 0), lacing == 0 ? 2 : 1);
            }
        }
    }

    /** Blocks that end before their frames begin, though there are bytes behind them. */
    private static void heads() {
        String[] heads = {"", "81", "81 00", "81 0000"};
        for (String head : heads) {
            block(head, false);
            Edge.fault(OPEN_CLUSTER + Edge.element("A3", head) + "EC80", ElementFiles.DATA, 10);
        }
        block("81 0000 00", true);
        for (String lacing : new String[] {"02", "04", "06"}) {
            block("81 0000" + lacing, false);
            Edge.fault(OPEN_CLUSTER + Edge.element("A3", "81 0000" + lacing) + "00", ElementFiles.DATA, 10);
            block("81 0000" + lacing + "00", true);
        }
    }

    // "Otherwise a byte tells how many frames there are less one (0 to 7)."
    private static void howManyFrames() {
        for (int less = 0; less < 256; less++) {
            String count = String.format("%02X", less);
            String first = less == 0 ? "" : "80" + "BF".repeat(less - 1);
            String[] laced = {"02" + count + "00".repeat(less), "04" + count, "06" + count + first};
            for (int i = 0; i < laced.length; i++) {
                Bounded x = block("81 0000" + laced[i], less <= 7);
                if (x != null) {
                    Due.is("frames of " + laced[i], x.value(2), less + 1);
                    Due.is("size of the last one", x.part(2, less), 0);
                    Due.is("size behind", x.part(2, less + 1), ElementFiles.NONE);
                }
            }
        }
    }

    // "Lacing 0: one frame, all that is left."
    private static void unlaced() {
        for (int size : new int[] {0, 1, 122, 123, 300, 301, 400, 401, 623}) {
            Bounded x = block("81 0000 80" + "5B".repeat(size), true);
            Due.is("one frame", x.value(2), 1);
            Due.is("its size", x.part(2, 0), size);
            Due.is("its last byte", x.sample(2, 0, size - 1), size == 0 ? ElementFiles.NONE : 0x5B);
            Due.is("behind it", x.sample(2, 0, size), ElementFiles.NONE);
        }
    }

    private static String sizeInBytes(int size) {
        return "FF".repeat(size / 255) + String.format("%02X", size % 255);
    }

    private static void sized(String head, int left, boolean good, int... sizes) {
        Bounded x = block("81 0000" + head + "5C".repeat(left), good);
        for (int i = 0; x != null && i < sizes.length; i++) {
            Due.is("size " + i + " of " + head, x.part(2, i), sizes[i]);
        }
        if (x != null) {
            Due.is("frames of " + head, x.value(2), sizes.length);
        }
    }

    // "Lacing 1: a size is as many bytes 255 as it has times 255 in it, and then a byte, the rest (0 .. 254)."
    private static void lacedByBytes() {
        for (int size : new int[] {0, 1, 253, 254, 255, 256, 509, 510, 511, 600}) {
            String one = "0201" + sizeInBytes(size);
            sized(one, size + 1, true, size, 1);
            sized(one, size, true, size, 0);
            if (size > 0) {
                sized(one, size - 1, false);
            }
        }
        // The sum of two sizes is all that is left, or one more than that.
        sized("0202 FF00 05", 260, true, 255, 5, 0);
        sized("0202 FF00 05", 259, false);
        sized("0202 05 05", 9, false);
        // The byte of the rest is not there.
        sized("0201", 0, false);
        sized("0201 FF", 0, false);
        sized("0201 FFFF", 0, false);
        sized("0202 00", 0, false);
        sized("0207 000000000000", 0, false);
        sized("0207 00000000000000", 0, true, 0, 0, 0, 0, 0, 0, 0, 0);
        block("81 0000 02 01" + "FF".repeat(600), false);
    }

    // "Lacing 2: no sizes; all frames have the same one."
    private static void lacedEvenly() {
        for (int frames = 1; frames <= 8; frames++) {
            for (int left = 0; left <= 25; left++) {
                Bounded x = block("81 0000 04" + String.format("%02X", frames - 1) + "5D".repeat(left),
                        left % frames == 0);
                if (x != null) {
                    Due.is("frames", x.value(2), frames);
                    Due.is("the first one's size", x.part(2, 0), left / frames);
                    Due.is("the last one's size", x.part(2, frames - 1), left / frames);
                }
            }
        }
    }

    // "Lacing 3: the first size is a vint that is not full of ones."
    private static void lacedFirstSizes() {
        for (int length = 1; length <= 8; length++) {
            for (int size : new int[] {0, 1, 125, 126, 127, 128, 500}) {
                if (length > 1 || size < 127) {
                    String first = "0601" + Edge.vint(size, length);
                    sized(first, size + 1, true, size, 1);
                    sized(first, size, true, size, 0);
                    if (size > 0) {
                        sized(first, size - 1, false);
                    }
                }
            }
            sized("0601" + Edge.ones(length), 500, false);
            sized("0601" + Edge.vint((1L << (7 * length)) - 2, length), length == 1 ? 125 : 500, false);
            for (int bit = 10; bit < 7 * length; bit++) {
                sized("0601" + Edge.vint(1L << bit, length), 500, false);
            }
            String whole = Edge.vint(0, length);
            sized("0601" + whole.substring(0, whole.length() - 2), 0, false);
        }
        sized("0601 00", 200, false);
    }

    /** The vint of so many bytes that tells this difference. */
    private static String difference(long difference, int length) {
        return Edge.vint(difference + (1L << (7 * length - 1)) - 1, length);
    }

    // "each other one a vint of L bytes .. with the value: the size less the size before, plus 2^(7 * L - 1) - 1."
    private static void lacedDifferences() {
        for (int length = 1; length <= 8; length++) {
            String begin = "0602 85";
            sized(begin + difference(0, length), 11, true, 5, 5, 1);
            sized(begin + difference(1, length), 12, true, 5, 6, 1);
            sized(begin + difference(-1, length), 10, true, 5, 4, 1);
            sized(begin + difference(63, length), 73, true, 5, 68, 0);
            sized(begin + difference(63, length), 72, false);
            // Down to a size of 0, and not below.
            sized(begin + difference(-5, length), 5, true, 5, 0, 0);
            sized(begin + difference(-6, length), 5, false);
            sized(begin + difference(-6, length), 500, false);
            // A difference to the size before, not to the first one.
            sized("0603 85" + difference(2, length) + difference(-3, length), 17, true, 5, 7, 4, 1);
            sized("0603 85" + difference(2, length) + difference(-8, length), 500, false);
            if (length > 1) {
                sized("0602 82" + difference(300, length), 305, true, 2, 302, 1);
                sized("0603 4140" + difference(-320, length) + difference(64, length), 385, true, 320, 0, 64, 1);
            }
        }
        // The least and the greatest difference of one byte.
        sized("0602 BF 80", 64, true, 63, 0, 1);
        sized("0602 BE 80", 500, false);
        sized("0602 80 FE", 64, true, 0, 63, 1);
    }

    // ".. not full of ones ..", and sizes beyond what is left, or that wrap.
    private static void lacedDifferencesTooFar() {
        for (int length = 1; length <= 8; length++) {
            sized("0602 85" + Edge.ones(length), 500, false);
            String whole = difference(0, length);
            sized("0602 80" + whole.substring(0, whole.length() - 2), 0, false);
            if (length > 1) {
                sized("0602 85" + Edge.vint(0, length), 500, false);
                sized("0602 85" + Edge.vint((1L << (7 * length)) - 2, length), 500, false);
            }
            // Up beyond the end and down again is beyond the end nonetheless.
            if (length > 2) {
                sized("0603 85" + difference(1000, length) + difference(-1000, length), 500, false);
            }
        }
        String up = Edge.vint((1L << 56) - 2, 8);
        sized("0607 01FFFFFFFFFFFFFE" + up.repeat(6), 400, false);
        sized("0602 80 00", 200, false);
        sized("0602 82", 0, false);
        // The sum of the sizes is all that is left, or one more than that.
        sized("0603 85 BF BF", 15, true, 5, 5, 5, 0);
        sized("0603 85 BF BF", 14, false);
    }

    // "A VINT of L bytes (1 to 8): the first byte has L - 1 bits 0, then a bit 1."
    private static void noVintBeginsWith0() {
        for (int length = 1; length <= 10; length++) {
            // Were they a vint, these bytes would tell a track or a size of 5, and then a difference of 0.
            String five = "00" + (length == 1 ? "" : "00".repeat(length - 2) + "05");
            String same = "00" + (length == 1 ? "" : "3F" + "FF".repeat(length - 2));
            String sameWithoutMark = "00" + (length == 1 ? "" : "7F" + "FF".repeat(length - 2));
            block(five + "0000 00", false);
            block(five + "0000 00" + "5D".repeat(20), false);
            sized("0601" + five, 20, false);
            sized("0602 85" + same, 20, false);
            sized("0602 85" + sameWithoutMark, 20, false);
        }
    }
}
