/** Promises 5 and 6: read and where, with each fault of reading in its order. */
public final class ReadTest {
    private static final String HEAD = "1A45DFA3 ";
    private static final String SEGMENT = "18538067 ";
    private static final String CLUSTER = "1F43B675 ";

    public static void main(String[] args) {
        ids();
        places();
        sizes();
        ends();
        unknownSizes();
        room();
        numbers();
        texts();
        checks();
        blocks();
        lacings();
        whatStays();
        Due.finish();
    }

    private static void good(String hex, int elements) {
        Bounded x = Due.fed(hex);
        Due.is("read of " + hex, x.read(), elements);
        Due.is("where after " + hex, x.where(), ElementFiles.NONE);
    }

    private static void bad(String hex, int fault, int where) {
        Bounded x = Due.fed(hex);
        Due.is("read of " + hex, x.read(), fault);
        Due.is("where after " + hex, x.where(), where);
        Due.is("no elements after " + hex, x.id(0), ElementFiles.NONE);
    }

    private static void shaped(String hex, String shape) {
        Bounded x = Due.fed(hex);
        Due.is("where after " + hex, x.read() < 0 ? x.where() : ElementFiles.NONE, ElementFiles.NONE);
        Due.is("shape of " + hex, Due.shape(x), shape);
    }

    private static String times(int n, String hex) {
        return hex.repeat(n);
    }

    private static void ids() {
        good("", 0);
        bad("00", ElementFiles.FORM, 0);
        bad("0F80", ElementFiles.FORM, 0);
        bad("EC80 01", ElementFiles.FORM, 2);
        bad(HEAD + "81 0F", ElementFiles.FORM, 5);
        // FORM of the ID comes before CUT of it.
        bad("08", ElementFiles.FORM, 0);
        shaped("10000000 80", "10000000@-1");
        shaped("1FFFFFFF 80", "1FFFFFFF@-1");
        shaped("200000 80", "200000@-1");
        shaped("3FFFFF 80", "3FFFFF@-1");
        shaped("4000 80", "4000@-1");
        shaped("7FFF 80", "7FFF@-1");
        shaped("80 80 FF 80", "80@-1 FF@-1");
        // The same value in more bytes is another ID.
        shaped("406C 80", "406C@-1");
        bad("42", ElementFiles.CUT, 0);
        bad("1A45DF", ElementFiles.CUT, 0);
        bad("2000", ElementFiles.CUT, 0);
        // Before the master's data end, not only before IN does.
        bad(HEAD + "81 42 86 81 05", ElementFiles.CUT, 5);
        bad(SEGMENT + "82 EC", ElementFiles.CUT, 0);
        bad(SEGMENT + "81 1F 43B675 80", ElementFiles.CUT, 5);
    }

    private static void places() {
        bad("4286 81 05", ElementFiles.MISPLACED, 0);
        // MISPLACED comes before what is wrong with the size.
        bad("4286", ElementFiles.MISPLACED, 0);
        bad("4286 00", ElementFiles.MISPLACED, 0);
        bad("AE80", ElementFiles.MISPLACED, 0);
        bad("BF84 00000000", ElementFiles.MISPLACED, 0);
        bad(HEAD + "82 D780", ElementFiles.MISPLACED, 5);
        bad(HEAD + "82 E780", ElementFiles.MISPLACED, 5);
        bad(HEAD + "85" + HEAD + "80", ElementFiles.MISPLACED, 5);
        bad(SEGMENT + "82 A380", ElementFiles.MISPLACED, 5);
        bad(SEGMENT + "85" + SEGMENT + "80", ElementFiles.MISPLACED, 5);
        bad(SEGMENT + "82 BF80", ElementFiles.MISPLACED, 5);
        bad(SEGMENT + "88" + CLUSTER + "83 428680", ElementFiles.MISPLACED, 10);
        shaped(HEAD + "86 428680 428280", "1A45DFA3@-1 4286@0 4282@0");
        shaped(SEGMENT + "87 AE85 D780 536E80", "18538067@-1 AE@0 D7@1 536E@1");
        shaped(SEGMENT + "8D " + CLUSTER + "88 E780 A384 81 0000 80",
                "18538067@-1 1F43B675@0 E7@1 A3@1");
        shaped(SEGMENT + "88 BB86 B380 F780 F180", "18538067@-1 BB@0 B3@1 F7@1 F1@1");
        shaped("EC80" + HEAD + "84 EC80 8180 EC80", "EC@-1 1A45DFA3@-1 EC@1 81@1 EC@-1");
        shaped(SEGMENT + "8F AE84 EC80 8180 " + CLUSTER + "84 EC80 8180",
                "18538067@-1 AE@0 EC@1 81@1 1F43B675@0 EC@4 81@4");
        shaped(SEGMENT + "86 BB84 EC80 8180", "18538067@-1 BB@0 EC@1 81@1");
        // FOREIGN data are no elements.
        shaped("8182 EC80", "81@-1");
        // CHECK only as the first child.
        String behind = "EC80";
        shaped(HEAD + "88 BF84" + Due.sum(behind) + behind, "1A45DFA3@-1 BF@0 EC@0");
        bad(HEAD + "88 EC80 BF84 00000000", ElementFiles.MISPLACED, 7);
        String second = "BF84 00000000";
        bad(HEAD + "8C BF84" + Due.sum(second) + second, ElementFiles.MISPLACED, 11);
    }

    private static void sizes() {
        bad(HEAD, ElementFiles.CUT, 0);
        bad(HEAD + "82 4286 81 05", ElementFiles.CUT, 5);
        // The byte behind the master's end is no byte of the size.
        bad(HEAD + "82 4286 00", ElementFiles.CUT, 5);
        bad(HEAD + "00", ElementFiles.FORM, 0);
        bad(HEAD + "83 4286 00", ElementFiles.FORM, 5);
        bad(HEAD + "40", ElementFiles.CUT, 0);
        bad(HEAD + "01 000000000000", ElementFiles.CUT, 0);
        bad(HEAD + "83 4286 40 01 05", ElementFiles.CUT, 5);
        good("EC 01 00000000000002 0000", 1);
        good("EC 02 000000000002 0000", 1);
        good("EC 04 0000000002 0000", 1);
        good("EC 08 00000002 0000", 1);
        good("EC 10 000002 0000", 1);
        good("EC 20 0002 0000", 1);
        good("EC 4002 0000", 1);
        good("EC FE" + times(126, "00"), 1);
        good("EC 407F" + times(127, "00"), 1);
        bad("EC FF", ElementFiles.OPEN, 0);
        bad("EC 7FFF", ElementFiles.OPEN, 0);
        bad("81 3FFFFF", ElementFiles.OPEN, 0);
        bad(HEAD + "1FFFFFFF", ElementFiles.OPEN, 0);
        bad(HEAD + "0FFFFFFFFF", ElementFiles.OPEN, 0);
        bad(HEAD + "07FFFFFFFFFF", ElementFiles.OPEN, 0);
        bad(HEAD + "03FFFFFFFFFFFF", ElementFiles.OPEN, 0);
        bad(HEAD + "01FFFFFFFFFFFFFF", ElementFiles.OPEN, 0);
        bad(SEGMENT + "82 AEFF", ElementFiles.OPEN, 5);
        bad(SEGMENT + "82 BBFF", ElementFiles.OPEN, 5);
        bad("EC 81", ElementFiles.CUT, 0);
        bad("EC 7FFE", ElementFiles.CUT, 0);
        bad("EC 01FFFFFFFFFFFFFE", ElementFiles.CUT, 0);
        bad("EC 01000001 00000000 00", ElementFiles.CUT, 0);
        bad(SEGMENT + "81", ElementFiles.CUT, 0);
        // Beyond the master's end, though not beyond that of IN.
        bad(HEAD + "83 4286 81 05", ElementFiles.CUT, 5);
        // CUT comes before DATA.
        bad(HEAD + "83 4286 89", ElementFiles.CUT, 5);
    }

    private static void ends() {
        shaped(HEAD + "80 EC80", "1A45DFA3@-1 EC@-1");
        shaped(SEGMENT + "84 AE80 AE80 " + HEAD + "80",
                "18538067@-1 AE@0 AE@0 1A45DFA3@-1");
        // Two masters end at the same place.
        shaped(SEGMENT + "84 AE82 EC80 EC80", "18538067@-1 AE@0 EC@1 EC@-1");
        // A master of known size does not end because of what may not stand in it.
        bad(SEGMENT + "87 " + CLUSTER + "82 AE80", ElementFiles.MISPLACED, 10);
    }

    private static void unknownSizes() {
        shaped(SEGMENT + "FF", "18538067@-1");
        shaped(SEGMENT + "7FFF AE80", "18538067@-1 AE@0");
        shaped(SEGMENT + "01FFFFFFFFFFFFFF AE80", "18538067@-1 AE@0");
        shaped(SEGMENT + "FF " + CLUSTER + "FF E780 " + CLUSTER + "FF E780 AE80",
                "18538067@-1 1F43B675@0 E7@1 1F43B675@0 E7@3 AE@0");
        // A HEAD ends the CLUSTER and the SEGMENT; FOREIGN ones and VOIDs end nothing.
        shaped(SEGMENT + "FF " + CLUSTER + "FF 8180 EC80 " + HEAD + "80 EC80",
                "18538067@-1 1F43B675@0 81@1 EC@1 1A45DFA3@-1 EC@-1");
        shaped(SEGMENT + "FF " + CLUSTER + "FF " + SEGMENT + "FF EC80",
                "18538067@-1 1F43B675@0 18538067@-1 EC@2");
        // The CLUSTER ends where its SEGMENT's size says.
        shaped(SEGMENT + "89 " + CLUSTER + "FF E780 EC80", "18538067@-1 1F43B675@0 E7@1 EC@1");
        shaped(SEGMENT + "87 " + CLUSTER + "FF E780 EC80", "18538067@-1 1F43B675@0 E7@1 EC@-1");
        // It ends, but the SEGMENT, whose size is known, does not.
        bad(SEGMENT + "8A " + CLUSTER + "FF " + HEAD + "80", ElementFiles.MISPLACED, 10);
        bad(SEGMENT + "FF " + CLUSTER + "FF 428680", ElementFiles.MISPLACED, 10);
        bad(SEGMENT + "FF BF84 00000000", ElementFiles.MISPLACED, 5);
        bad(SEGMENT + "86 " + CLUSTER + "FF 428680", ElementFiles.CUT, 10);
        bad(SEGMENT + "87 " + CLUSTER + "FF 428680", ElementFiles.MISPLACED, 10);
        bad(SEGMENT + "88 " + CLUSTER + "FF E782 0000", ElementFiles.CUT, 10);
        bad(CLUSTER + "FF", ElementFiles.MISPLACED, 0);
        bad(SEGMENT + "FF 42", ElementFiles.CUT, 5);
        bad(SEGMENT + "FF 0F", ElementFiles.FORM, 5);
    }

    private static void room() {
        good(times(60, "EC80"), 60);
        bad(times(61, "EC80"), ElementFiles.ROOM, 120);
        bad(times(59, "EC80") + HEAD + "8C 4286 89" + times(9, "00"), ElementFiles.ROOM, 123);
        bad(times(60, "EC80") + HEAD + "80", ElementFiles.ROOM, 120);
        bad(times(60, "EC80") + "EC81", ElementFiles.CUT, 120);
        bad(times(60, "EC80") + "4286 80", ElementFiles.MISPLACED, 120);
        good("81 427D" + times(637, "AB"), 1);
    }

    private static void number(String data, long value) {
        Bounded x = Due.fed(String.format("%s%02X 4286 %02X %s", HEAD,
                0x83 + data.length() / 2, 0x80 + data.length() / 2, data));
        Due.is("read of number " + data, x.read(), 2);
        Due.is("number " + data, x.value(1), value);
    }

    private static void numbers() {
        number("", 0);
        number("00", 0);
        number("FF", 255);
        number("0100", 256);
        number("0000000000000005", 5);
        number("7FFFFFFFFFFFFFFF", Long.MAX_VALUE);
        number("8000000000000000", Long.MIN_VALUE);
        number("FFFFFFFFFFFFFFFF", -1);
        number("FFFFFFFFFFFFFF", 0xFFFFFFFFFFFFFFL);
        bad(HEAD + "8C 4286 89 000000000000000000", ElementFiles.DATA, 5);
        bad(SEGMENT + "8D AE8B D789 000000000000000000", ElementFiles.DATA, 7);
    }

    private static void text(String data, int letters) {
        Bounded x = Due.fed(String.format("%s%02X 4282 %02X %s", HEAD,
                0x83 + data.length() / 2, 0x80 + data.length() / 2, data));
        Due.is("read of text " + data, x.read(), letters < 0 ? ElementFiles.DATA : 2);
        Due.is("where of text " + data, x.where(), letters < 0 ? 5 : ElementFiles.NONE);
        Due.is("text " + data, x.value(1), letters < 0 ? ElementFiles.NONE : letters);
        for (int i = 0; i < letters; i++) {
            Due.is("letter " + i, x.part(1, i), Integer.parseInt(data.substring(2 * i, 2 * i + 2), 16));
        }
        Due.is("letter behind", x.part(1, Math.max(letters, 0)), ElementFiles.NONE);
    }

    private static void texts() {
        text("", 0);
        text("00", 0);
        text("207E41", 3);
        text("4100", 1);
        text("41" + times(40, "00"), 1);
        text("41004100", -1);
        text("0041", -1);
        text("1F", -1);
        text("7F", -1);
        text("80", -1);
        text("FF", -1);
        text("41420A", -1);
        text(times(16, "61"), 16);
        text(times(16, "61") + "0000", 16);
        text(times(17, "61"), -1);
    }

    private static void checks() {
        good(HEAD + "86 BF84 00000000", 2);
        String behind = "4286 81 07 4282 83 616200";
        good(HEAD + "90 BF84" + Due.sum(behind) + behind, 4);
        // The bytes 31 .. 39 have the well-known sum CBF43926; here they are a FOREIGN element.
        good(HEAD + "91 BF84" + Due.sum("81 89 313233343536373839") + "81 89 313233343536373839", 3);
        bad(HEAD + "90 BF84 00000000" + behind, ElementFiles.DATA, 5);
        bad(HEAD + "86 BF84 00000001", ElementFiles.DATA, 5);
        bad(HEAD + "86 BF84 01000000", ElementFiles.DATA, 5);
        bad(HEAD + "85 BF83 000000", ElementFiles.DATA, 5);
        bad(HEAD + "87 BF85 0000000000", ElementFiles.DATA, 5);
        bad(HEAD + "82 BF80", ElementFiles.DATA, 5);
        // The sum goes as far as the master's data, and no further.
        good(SEGMENT + "FF AE88 BF84" + Due.sum("EC80") + "EC80 EC80", 5);
        good(SEGMENT + "8A BB88 BF84" + Due.sum("EC80") + "EC80 EC80", 5);
        // The CHECK's own fault is met before those behind it, and where it stands.
        bad(HEAD + "87 BF84 00000000 0F", ElementFiles.DATA, 5);
        bad(HEAD + "87 BF84 " + Due.sum("0F") + " 0F", ElementFiles.FORM, 11);
    }

    /** Feeds the data as a BLOCK at place 10, in a CLUSTER of a SEGMENT of unknown sizes. */
    private static Bounded block(String data) {
        int size = Due.plain(data).length() / 2;
        return Due.fed(SEGMENT + "FF " + CLUSTER + "FF A3 " + String.format("%04X", 0x4000 + size) + data);
    }

    private static void goodBlock(String data, int track, int time, int key, int lacing) {
        Bounded x = block(data);
        Due.is("read of block " + data, x.read(), 3);
        Due.is("track of " + data, x.detail(2, 0), track);
        Due.is("time of " + data, x.detail(2, 1), time);
        Due.is("key of " + data, x.detail(2, 2), key);
        Due.is("lacing of " + data, x.detail(2, 3), lacing);
    }

    private static void badBlock(String data) {
        Bounded x = block(data);
        Due.is("read of block " + data, x.read(), ElementFiles.DATA);
        Due.is("where of block " + data, x.where(), 10);
    }

    private static void blocks() {
        goodBlock("81 0000 00", 1, 0, 0, 0);
        goodBlock("FE 7FFF 80 0102", 126, 32767, 1, 0);
        goodBlock("81 8000 80", 1, -32768, 1, 0);
        goodBlock("81 FFFF 80", 1, -1, 1, 0);
        goodBlock("81 0100 80", 1, 256, 1, 0);
        goodBlock("4001 0000 82 00", 1, 0, 1, 1);
        goodBlock("01 0000000000007E 0000 04 00", 126, 0, 0, 2);
        goodBlock("10 000005 0000 86 00", 5, 0, 1, 3);
        badBlock("");
        badBlock("80 0000 00");
        badBlock("FF 0000 00");
        badBlock("407F 0000 00");
        badBlock("4000 0000 00");
        badBlock("01 01000000000001 0000 00");
        badBlock("00 0000 00");
        badBlock("40");
        badBlock("81");
        badBlock("81 00");
        badBlock("81 0000");
        badBlock("81 0000 01");
        badBlock("81 0000 08");
        badBlock("81 0000 10");
        badBlock("81 0000 20");
        badBlock("81 0000 40");
        badBlock("81 0000 02");
        badBlock("81 0000 04");
        badBlock("81 0000 06");
        badBlock("81 0000 02 08 0000000000000000");
        badBlock("81 0000 04 08");
        // The byte behind the block does not tell how many frames there are.
        bad(SEGMENT + "FF " + CLUSTER + "FF A384 81000004 00", ElementFiles.DATA, 10);
        badBlock("81 0000 06 FF");
        Bounded x = block("81 0000 00 0A0B0C");
        Due.is("read", x.read(), 3);
        Due.is("one frame", x.value(2), 1);
        Due.is("its size", x.part(2, 0), 3);
        Due.is("its last byte", x.sample(2, 0, 2), 12);
    }

    private static void laced(String data, int... sizes) {
        Bounded x = block(data);
        Due.is("read of block " + data, x.read(), 3);
        Due.is("frames of " + data, x.value(2), sizes.length);
        for (int i = 0; i < sizes.length; i++) {
            Due.is("size " + i + " of " + data, x.part(2, i), sizes[i]);
        }
        Due.is("size behind", x.part(2, sizes.length), ElementFiles.NONE);
    }

    private static void lacings() {
        laced("81 0000 02 00 AABB", 2);
        laced("81 0000 02 02 01 00 AABBCC", 1, 0, 2);
        laced("81 0000 02 01 FF00" + times(255, "AA"), 255, 0);
        laced("81 0000 02 01 FFFF03" + times(514, "AA"), 513, 1);
        laced("81 0000 02 07 00000000000000", 0, 0, 0, 0, 0, 0, 0, 0);
        badBlock("81 0000 02 01");
        badBlock("81 0000 02 01 FF");
        badBlock("81 0000 02 01 FFFF");
        badBlock("81 0000 02 01 02 AA");
        badBlock("81 0000 02 02 01 02 AABB");
        laced("81 0000 04 02 010203040506", 2, 2, 2);
        laced("81 0000 04 07", 0, 0, 0, 0, 0, 0, 0, 0);
        laced("81 0000 04 00 AA", 1);
        badBlock("81 0000 04 02 01020304");
        laced("81 0000 06 00", 0);
        laced("81 0000 06 01 82 AABBCC", 2, 1);
        laced("81 0000 06 01 4002 AABBCC", 2, 1);
        laced("81 0000 06 01 01 00000000000002 AABBCC", 2, 1);
        // BF is 63 and tells no difference, C0 one more, BE one less.
        laced("81 0000 06 03 82 BF C0 AABB AABB AABBCC DD", 2, 2, 3, 1);
        laced("81 0000 06 02 82 BE AABB AA CC", 2, 1, 1);
        laced("81 0000 06 02 82 5FFE AABB AA", 2, 1, 0);
        laced("81 0000 06 02 82 01 7FFFFFFFFFFFFF AABB AABB", 2, 2, 0);
        laced("81 0000 06 02 80 FE" + times(63, "AA"), 0, 63, 0);
        laced("81 0000 06 02 BF 80" + times(63, "AA"), 63, 0, 0);
        badBlock("81 0000 06 01");
        badBlock("81 0000 06 01 00 AA");
        badBlock("81 0000 06 01 FF" + times(200, "AA"));
        badBlock("81 0000 06 01 7FFF");
        badBlock("81 0000 06 01 40");
        badBlock("81 0000 06 01 82 AA");
        badBlock("81 0000 06 01 01FFFFFFFFFFFFFE AA");
        badBlock("81 0000 06 02 80 FF" + times(200, "AA"));
        badBlock("81 0000 06 02 81 BD AABBCC");
        badBlock("81 0000 06 02 82");
        badBlock("81 0000 06 02 82 C0 AABBAABB");
        badBlock("81 0000 06 02 82 01FFFFFFFFFFFFFE AABB");
        badBlock("81 0000 06 02 82 01 00000000000000 AABB");
    }

    private static void whatStays() {
        Bounded x = Due.withCluster();
        x.frame(2, 5);
        x.write(false);
        Due.feed(x, "EC80 8180");
        Due.is("read", x.read(), 2);
        Due.is("the tree is what was read", Due.shape(x), "EC@-1 81@-1");
        Due.is("IN stays", x.read(), 2);
        Due.is("OUT stays", Due.out(x), Due.plain(SEGMENT + "85" + CLUSTER + "80"));
        Due.feed(x, "0F");
        Due.is("read with a fault", x.read(), ElementFiles.FORM);
        Due.is("where", x.where(), 4);
        x.clear();
        Due.is("where after clear", x.where(), 4);
        x.make(-1, Due.SEGMENT, 0);
        x.make(0, Due.CLUSTER, 0);
        Due.is("where after make", x.where(), 4);
        Due.is("frames stay", x.block(1, 1, 0, true, 0), 2);
        Due.is("their size", x.part(2, 0), 2);
        x.take(false);
        Due.is("where after take", x.where(), 4);
        Due.is("read of nothing", x.read(), 0);
        Due.is("where after a good read", x.where(), ElementFiles.NONE);
        Due.is("nothing is left", x.id(0), ElementFiles.NONE);
        // A read begins at the top, also when the one before ended within a master.
        Due.feed(x, SEGMENT + "FF 0F");
        Due.is("a fault within a SEGMENT", x.read(), ElementFiles.FORM);
        x.take(false);
        Due.feed(x, "AE80");
        Due.is("a TRACK at the top", x.read(), ElementFiles.MISPLACED);
        Due.is("where", x.where(), 0);
    }
}
