/** The edges in 'Terms' of bytes, vints, IDs and sizes, and of where elements may stand. */
public final class VintEdgeTest {
    private static final String HEAD = Edge.HEAD;
    private static final String SEGMENT = Edge.SEGMENT;
    private static final String CLUSTER = Edge.CLUSTER;
    private static final String[] IDS = {"1A45DFA3", "18538067", "4286", "4282", "AE", "D7", "536E", "1F43B675",
        "E7", "A3", "BB", "B3", "F7", "F1", "BF", "EC", "81", "4287", "AF", "FF", "10000000", "1FFFFFFF"};

    public static void main(String[] args) {
        bytes();
        lengths();
        fullOfOnes();
        shortest();
        firstBytesOfIds();
        longestIds();
        standing();
        checksAsFirstChildren();
        Due.finish();
    }

    // "BYTES are 0 .. 255."
    private static void bytes() {
        for (int b = 0; b < 256; b++) {
            int same = b;
            Bounded x = Edge.made(y -> {
                y.feed(0x8181, 2);
                y.feed(same - 256, 1);
                y.read();
                y.write(false);
            });
            Due.is("byte " + b + " of FOREIGN", x.part(0, 0), b);
            Due.is("byte " + b + " of OUT", x.out(2), b);
        }
    }

    // "A VINT of L bytes (1 to 8): the first byte has L - 1 bits 0, then a bit 1."
    private static void lengths() {
        for (int length = 1; length <= 8; length++) {
            for (int value = 0; value <= 64; value += 32) {
                String size = Edge.vint(value, length);
                Bounded x = Edge.good("EC" + size + "00".repeat(value), "EC@-1");
                Due.is("bytes of VOID with size " + size, x.value(0), value);
                // Its last byte is not there: of the data, or, when it has none, of the size.
                String whole = "EC" + size + "00".repeat(value);
                Edge.fault(whole.substring(0, whole.length() - 2), ElementFiles.CUT, 0);
            }
        }
        // Eight bytes begin with 1; no vint begins with 0.
        Edge.good("EC 0100000000000000", "EC@-1");
        Edge.fault("EC 0000000000000000", ElementFiles.FORM, 0);
        Edge.fault("EC 0001000000000000 00", ElementFiles.FORM, 0);
        // The bits of all its bytes make the value: 2^k is beyond the end, however high it is.
        for (int bit = 10; bit < 56; bit++) {
            Edge.fault("EC" + Edge.vint(1L << bit, 8) + "0000", ElementFiles.CUT, 0);
        }
        Bounded x = Edge.good("EC 0100000000000200" + "00".repeat(512), "EC@-1");
        Due.is("a size of 512", x.value(0), 512);
    }

    // "It is FULL OF ONES when these all are 1." "The size is .. UNKNOWN when it is full of ones."
    private static void fullOfOnes() {
        for (int length = 1; length <= 8; length++) {
            String ones = Edge.ones(length);
            Edge.good(SEGMENT + ones + CLUSTER + ones + "E780 AE80", "18538067@-1 1F43B675@0 E7@1 AE@0");
            Edge.fault("EC" + ones, ElementFiles.OPEN, 0);
            // One of the bits is 0, so that the size is known: the lowest, the highest, each between.
            for (int bit = 0; bit < 7 * length; bit++) {
                String almost = Edge.vint(((1L << (7 * length)) - 1) ^ (1L << bit), length);
                Edge.fault(SEGMENT + almost, ElementFiles.CUT, 0);
                Edge.fault("EC" + almost, ElementFiles.CUT, 0);
            }
        }
        Edge.good("EC FE" + "00".repeat(126), "EC@-1");
        Edge.fault("EC FE" + "00".repeat(125), ElementFiles.CUT, 0);
        // In more bytes, the same value is not full of ones.
        Edge.good("EC 407F" + "00".repeat(127), "EC@-1");
        Edge.fault("EC FF" + "00".repeat(127), ElementFiles.OPEN, 0);
    }

    // "The SHORTEST vint of a value is the one with the least L .. which is not full of ones."
    private static void shortest() {
        int[] sizes = {0, 1, 125, 126, 127, 128, 129, 255, 256, 630};
        for (int size : sizes) {
            String data = "00".repeat(size);
            String size8 = Edge.vint(size, 8);
            for (String id : new String[] {"EC", "81"}) {
                Bounded x = Edge.made(y -> Due.feed(y, id + size8 + data));
                Due.is("read() with a size of " + size, x.read(), 1);
                String due = id + (size < 127 ? Edge.vint(size, 1) : Edge.vint(size, 2)) + data;
                Due.is("write() with a size of " + size, x.write(false), due.length() / 2);
                Due.is("OUT with a size of " + size, Due.out(x), due);
            }
        }
        // A master of 126 bytes, and one of 127.
        for (int size = 126; size <= 127; size++) {
            int rest = size - 68;
            Bounded x = Edge.made(y -> {
                y.make(-1, Due.HEAD, 0);
                y.make(0, Due.VOID, 64);
                y.make(0, Due.VOID, rest);
            });
            Due.is("write() of a master of " + size, x.write(false), size == 126 ? 131 : 133);
            Due.is("its size", x.out(4), size == 126 ? 0xFE : 0x40);
            Due.is("and the byte behind", x.out(5), size == 126 ? 0xEC : 0x7F);
        }
    }

    // "FORM the ID's first byte is below 16."
    private static void firstBytesOfIds() {
        for (int first = 0; first < 256; first++) {
            String begin = String.format("%02X", first);
            if (first < 16) {
                Edge.fault(begin + "000000 80", ElementFiles.FORM, 0);
                Edge.fault("EC80" + begin + "000000 80", ElementFiles.FORM, 2);
                Edge.fault(begin, ElementFiles.FORM, 0);
            } else {
                int more = first < 32 ? 3 : first < 64 ? 2 : first < 128 ? 1 : 0;
                String id = begin + "00".repeat(more);
                boolean own = " AE D7 E7 A3 BB B3 F7 F1 BF ".contains(" " + id + " ");
                if (own) {
                    Edge.fault(id + "80", ElementFiles.MISPLACED, 0);
                } else {
                    Edge.good(id + "80", id + "@-1");
                }
            }
        }
    }

    // "An ID is told as the number that all its bytes make." "CUT its ID is not complete."
    private static void longestIds() {
        String[] ids = {"80", "FF", "4000", "7FFF", "200000", "3FFFFF", "10000000", "1FFFFFFF", "406C", "20406C",
            "1A45DFA2", "1A45DFA4", "18538066", "18538068", "4285", "4287", "536D", "536F"};
        for (String id : ids) {
            Bounded x = Edge.good(id + "80", id + "@-1");
            Due.is("id() of " + id, x.id(0), Integer.parseInt(id, 16));
            Due.is("it is FOREIGN", x.value(0), 0);
            Due.is("write() of " + id, x.write(false), id.length() / 2 + 1);
            Due.is("OUT of " + id, Due.out(x), id + "80");
            for (int there = 2; there < id.length(); there += 2) {
                Edge.fault(id.substring(0, there), ElementFiles.CUT, 0);
                // Before the master's data end, though more bytes follow.
                String master = HEAD + Edge.vint(there / 2, 1);
                Edge.fault(master + id + "80", ElementFiles.CUT, 5);
            }
        }
    }

    private static String dataOf(String id) {
        return id.equals("A3") ? "81000000" : id.equals("BF") ? "00000000" : "";
    }

    /** Whether it may stand at the top (-) or in this master, in the words of the document. */
    private static boolean may(String id, String master) {
        switch (id) {
            case "1A45DFA3": case "18538067":
                return master.equals("-");
            case "4286": case "4282":
                return master.equals("1A45DFA3");
            case "AE": case "1F43B675": case "BB":
                return master.equals("18538067");
            case "D7": case "536E":
                return master.equals("AE");
            case "E7": case "A3":
                return master.equals("1F43B675");
            case "B3": case "F7": case "F1":
                return master.equals("BB");
            case "BF":
                return master.equals("1A45DFA3") || master.equals("AE") || master.equals("BB");
            default:
                return true;
        }
    }

    // "The elements, and in which they may stand."
    private static void standing() {
        for (String id : IDS) {
            String e = Edge.element(id, dataOf(id));
            top(id, e);
            within(id, "1A45DFA3", Edge.element("1A45DFA3", e), 5, "1A45DFA3@-1 " + id + "@0");
            within(id, "18538067", Edge.element("18538067", e), 5, "18538067@-1 " + id + "@0");
            for (String master : new String[] {"AE", "1F43B675", "BB"}) {
                within(id, master, Edge.element("18538067", Edge.element(master, e)), 6 + master.length() / 2,
                        "18538067@-1 " + master + "@0 " + id + "@1");
            }
            making(id);
        }
    }

    private static void top(String id, String hex) {
        if (may(id, "-")) {
            Edge.good(hex, id + "@-1");
        } else {
            Edge.fault(hex, ElementFiles.MISPLACED, 0);
        }
    }

    private static void within(String id, String master, String hex, int where, String shape) {
        if (may(id, master)) {
            Edge.good(hex, shape);
        } else {
            Edge.fault(hex, ElementFiles.MISPLACED, where);
        }
    }

    private static void making(String id) {
        String[] masters = {"-", "1A45DFA3", "18538067", "AE", "1F43B675", "BB"};
        boolean never = id.equals("A3") || may(id, "-") && may(id, "AE") && !id.equals("EC");
        for (int parent = -1; parent < 5; parent++) {
            int same = parent;
            Edge.Run all = x -> {
                x.make(-1, Due.HEAD, 0);
                x.make(-1, Due.SEGMENT, 0);
                x.make(1, Due.TRACK, 0);
                x.make(1, Due.CLUSTER, 0);
                x.make(1, Due.CUE, 0);
            };
            Edge.Call call = x -> x.make(same, Integer.parseInt(id, 16), 0);
            if (never || !may(id, masters[parent + 1])) {
                Edge.refused("make of " + id + " in " + parent, all, call, ElementFiles.MISPLACED);
            } else {
                int due = parent < 0 ? 5 : parent == 1 ? 5 : parent + 1;
                Edge.taken("make of " + id + " in " + parent, all, call, due);
            }
        }
    }

    // "CHECK BF, HEAD, TRACK and CUE, there only as the first child."
    private static void checksAsFirstChildren() {
        for (String before : new String[] {"EC80", "8180", "EC8100"}) {
            String late = before + "BF84 00000000";
            int behind = Due.plain(before).length() / 2;
            Edge.fault(Edge.element(HEAD, late), ElementFiles.MISPLACED, 5 + behind);
            Edge.fault(Edge.element(SEGMENT, Edge.element("AE", late)), ElementFiles.MISPLACED, 7 + behind);
            Edge.fault(Edge.element(SEGMENT, Edge.element("BB", late)), ElementFiles.MISPLACED, 7 + behind);
        }
        String second = "BF84 00000000";
        Edge.good(Edge.element(HEAD, second), "1A45DFA3@-1 BF@0");
        Edge.fault(Edge.element(HEAD, "BF84" + Due.sum(second) + second), ElementFiles.MISPLACED, 11);
        // The first child again of the next master.
        Edge.good(Edge.element(HEAD, second) + Edge.element(HEAD, second), "1A45DFA3@-1 BF@0 1A45DFA3@-1 BF@2");
    }
}
