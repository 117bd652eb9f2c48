/** Promise 18: write. */
public final class WriteTest {
    private static final String HEAD = "1A45DFA3 ";
    private static final String SEGMENT = "18538067 ";
    private static final String CLUSTER = "1F43B675 ";

    public static void main(String[] args) {
        numbers();
        textsAndVoids();
        checks();
        foreignOnes();
        sizes();
        live();
        lacings();
        tooLong();
        Due.finish();
    }

    private static void writes(String what, Bounded x, boolean live, String hex) {
        String due = Due.plain(hex);
        Due.is(what, x.write(live), due.length() / 2);
        Due.is(what, Due.out(x), due);
    }

    private static void number(long value, String data) {
        Bounded x = new Bounded();
        x.make(-1, Due.HEAD, 0);
        x.make(0, Due.VERSION, value);
        int size = data.length() / 2;
        writes("number " + value, x, false, String.format("%s%02X 4286 %02X %s", HEAD, 0x83 + size, 0x80 + size, data));
    }

    private static void numbers() {
        number(0, "00");
        number(1, "01");
        number(127, "7F");
        number(128, "80");
        number(255, "FF");
        number(256, "0100");
        number(65535, "FFFF");
        number(65536, "010000");
        number(1L << 55, "80000000000000");
        number(1L << 56, "0100000000000000");
        number(Long.MAX_VALUE, "7FFFFFFFFFFFFFFF");
        number(-1, "FFFFFFFFFFFFFFFF");
        number(Long.MIN_VALUE, "8000000000000000");
        Bounded x = Due.fed(HEAD + "89 4286 80 4286 83 000007");
        Due.is("read", x.read(), 3);
        writes("numbers that were read", x, false, HEAD + "88 4286 81 00 4286 81 07");
    }

    private static void textsAndVoids() {
        Bounded x = new Bounded();
        x.make(-1, Due.HEAD, 0);
        x.make(0, Due.TYPE, 5);
        x.make(0, Due.TYPE, 5);
        x.letter(1, 'a');
        x.letter(1, '~');
        x.make(-1, Due.VOID, 2);
        x.make(-1, Due.VOID, 0);
        writes("made", x, false, HEAD + "88 4282 82 617E 4282 80 EC82 0000 EC80");
        Bounded y = Due.fed(HEAD + "86 4282 83 610000 EC 4003 AABBCC");
        Due.is("read", y.read(), 3);
        writes("read", y, false, HEAD + "84 4282 81 61 EC83 000000");
    }

    private static void checks() {
        Bounded x = new Bounded();
        x.make(-1, Due.HEAD, 0);
        x.make(0, Due.CHECK, 0);
        writes("of nothing", x, false, HEAD + "86 BF84 00000000");
        x.make(0, Due.TYPE, 0);
        x.letter(2, 'x');
        String behind = "4282 81 78";
        writes("of a text", x, false, HEAD + "8A BF84" + Due.sum(behind) + behind);
        x.letter(2, 'y');
        x.make(-1, Due.SEGMENT, 0);
        x.make(3, Due.TRACK, 0);
        x.make(4, Due.CHECK, 0);
        x.make(4, Due.NUMBER, 300);
        x.make(3, Due.CUE, 0);
        x.make(7, Due.CHECK, 0);
        x.make(7, Due.WHEN, -1);
        behind = "4282 82 7879";
        String track = "D7 82 012C";
        String cue = "B3 88 FFFFFFFFFFFFFFFF";
        String head = HEAD + "8B BF84" + Due.sum(behind) + behind;
        String rest = "AE8A BF84" + Due.sum(track) + track + "BB90 BF84" + Due.sum(cue) + cue;
        writes("of all three", x, false, head + SEGMENT + "9E" + rest);
        writes("of all three, live", x, true, head + SEGMENT + "FF" + rest);
        x.take(true);
        Due.is("read back", x.read(), 10);
    }

    private static void foreignOnes() {
        Bounded x = Due.fed("1FFFFFFF 4002 0102 200000 80 4000 81 FF FF 82 0F00");
        Due.is("read", x.read(), 4);
        writes("as they were", x, false, "1FFFFFFF 82 0102 200000 80 4000 81 FF FF 82 0F00");
        Bounded y = Due.fed("81 407E" + "AB".repeat(126) + "82 407F" + "CD".repeat(127));
        Due.is("read", y.read(), 2);
        writes("shortest sizes", y, false, "81 FE" + "AB".repeat(126) + "82 407F" + "CD".repeat(127));
    }

    private static void sizes() {
        Bounded x = Due.fed(SEGMENT + "FF " + CLUSTER + "7FFF 8180 AE 4002 D780");
        Due.is("read", x.read(), 5);
        writes("known sizes", x, false, SEGMENT + "8C " + CLUSTER + "82 8180 AE 83 D78100");
        for (int voids = 0; voids < 6; voids++) {
            Bounded y = new Bounded();
            y.make(-1, Due.SEGMENT, 0);
            y.make(0, Due.VOID, 64);
            y.make(0, Due.VOID, 57 + voids);
            int size = 64 + 57 + voids + 4;
            String due = SEGMENT + (size < 127 ? String.format("%02X", 128 + size) : String.format("%04X", 16384 + size))
                    + "ECC0" + "00".repeat(64) + String.format("EC%02X", 128 + 57 + voids) + "00".repeat(57 + voids);
            writes("size " + size, y, false, due);
        }
    }

    private static void live() {
        Bounded x = Due.withCluster();
        x.make(-1, Due.HEAD, 0);
        x.make(0, Due.TRACK, 0);
        x.make(0, Due.CUE, 0);
        x.make(1, Due.TIME, 1);
        writes("live", x, true, SEGMENT + "FF" + CLUSTER + "FF E78101 AE80 BB80" + HEAD + "80");
        writes("not live", x, false, SEGMENT + "8C" + CLUSTER + "83 E78101 AE80 BB80" + HEAD + "80");
        x.take(true);
        Due.is("the tree stays", Due.shape(x), "18538067@-1 1F43B675@0 E7@1 AE@0 BB@0 1A45DFA3@-1");
    }

    private static void laced(int lacing, int[] sizes, String head) {
        Bounded x = Due.withCluster();
        StringBuilder bytes = new StringBuilder(head);
        for (int i = 0; i < sizes.length; i++) {
            x.frame(sizes[i], i);
            for (int j = 0; j < sizes[i]; j++) {
                bytes.append(String.format("%02X", (i + j) & 255));
            }
        }
        Due.is("block", x.block(1, 126, -2, true, lacing), 2);
        String data = Due.plain(bytes.toString());
        int size = data.length() / 2;
        String due = SEGMENT + "FF" + CLUSTER + "FF A3"
                + (size < 127 ? String.format("%02X", 128 + size) : String.format("%04X", 16384 + size)) + data;
        writes("lacing " + lacing, x, true, due);
        x.take(true);
        Due.is("read back", x.read(), 3);
        for (int i = 0; i < sizes.length; i++) {
            Due.is("size " + i, x.part(2, i), sizes[i]);
        }
        writes("again", x, true, due);
    }

    private static void lacings() {
        laced(0, new int[] {3}, "FE FFFE 80");
        laced(0, new int[] {0}, "FE FFFE 80");
        laced(1, new int[] {3}, "FE FFFE 82 00");
        laced(1, new int[] {3, 0, 4}, "FE FFFE 82 02 03 00");
        laced(1, new int[] {254, 1}, "FE FFFE 82 01 FE");
        laced(1, new int[] {255, 1}, "FE FFFE 82 01 FF00");
        laced(1, new int[] {300, 100}, "FE FFFE 82 01 FF2D");
        laced(2, new int[] {2, 2, 2}, "FE FFFE 84 02");
        laced(2, new int[] {0, 0, 0, 0, 0, 0, 0, 0}, "FE FFFE 84 07");
        laced(3, new int[] {9}, "FE FFFE 86 00");
        laced(3, new int[] {9, 9, 9}, "FE FFFE 86 02 89 BF");
        laced(3, new int[] {126, 9}, "FE FFFE 86 01 FE");
        laced(3, new int[] {127, 9}, "FE FFFE 86 01 407F");
        // Differences of 63 have room in one byte, those of 64 need two.
        laced(3, new int[] {0, 63, 0, 1}, "FE FFFE 86 03 80 FE 80");
        laced(3, new int[] {0, 64, 0, 1}, "FE FFFE 86 03 80 603F 5FBF");
        laced(3, new int[] {1, 0, 1, 300}, "FE FFFE 86 03 81 BE C0");
        laced(3, new int[] {0, 300, 0, 1}, "FE FFFE 86 03 80 612B 5ED3");
        // A long track is written short, and so are long sizes.
        Bounded x = Due.fed(SEGMENT + "FF " + CLUSTER + "FF A38E 4001 0000 06 02 4001 2FFFFF AABBCC");
        Due.is("read", x.read(), 3);
        writes("the shortest", x, false, SEGMENT + "91" + CLUSTER + "8C A38A 81 0000 06 02 81 BF AABBCC");
    }

    private static void tooLong() {
        Bounded x = new Bounded();
        x.make(-1, Due.HEAD, 0);
        writes("first", x, false, HEAD + "80");
        x.clear();
        for (int i = 0; i < 9; i++) {
            x.make(-1, Due.VOID, 64);
        }
        x.make(-1, Due.VOID, 45);
        Due.is("641 bytes", x.write(false), ElementFiles.LONG);
        Due.is("641 bytes, live", x.write(true), ElementFiles.LONG);
        Due.is("OUT stays", Due.out(x), Due.plain(HEAD + "80"));
        Due.is("the tree stays", x.value(9), 45);
        x.clear();
        for (int i = 0; i < 9; i++) {
            x.make(-1, Due.VOID, 64);
        }
        x.make(-1, Due.VOID, 44);
        Due.is("640 bytes", x.write(false), 640);
        Due.is("its last byte", x.out(639), 0);
        Due.is("taken", x.take(true), 640);
        Due.is("read", x.read(), 10);
        Bounded y = new Bounded();
        y.make(-1, Due.SEGMENT, 0);
        for (int i = 0; i < 9; i++) {
            y.make(0, Due.VOID, 64);
        }
        y.make(0, Due.VOID, 39);
        Due.is("641 bytes with a size of two", y.write(false), ElementFiles.LONG);
        Due.is("640 bytes live", y.write(true), 640);
        for (int i = 11; i < 60; i++) {
            y.make(0, Due.VOID, 64);
        }
        Due.is("far too long", y.write(true), ElementFiles.LONG);
        Due.is("OUT stays", y.out(639), 0);
    }
}
