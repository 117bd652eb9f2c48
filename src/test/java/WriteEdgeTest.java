/** The edges of promise 18, and of 'WRITING' in 'Terms'. */
public final class WriteEdgeTest {
    private static final String HEAD = Edge.HEAD;
    private static final String SEGMENT = Edge.SEGMENT;
    private static final String CLUSTER = Edge.CLUSTER;

    public static void main(String[] args) {
        nothing();
        numbers();
        numbersThatWereRead();
        texts();
        voids();
        sums();
        sumsBehindChanges();
        tracks();
        sizesInBytes();
        firstSizes();
        differences();
        evenSizes();
        foreignOnes();
        live();
        tooLong();
        tooLongLive();
        tooLongByOneSize();
        tooLongStays();
        numbering();
        Due.finish();
    }

    private static void writes(String what, Edge.Run run, boolean live, String hex) {
        String due = Due.plain(hex);
        Bounded x = Edge.made(run);
        String tree = Edge.tree(x);
        Due.is("write(" + live + ") of " + what, x.write(live), due.length() / 2);
        Due.is("OUT of " + what, Due.out(x), due);
        Due.is("the tree of " + what + " stays", Edge.tree(x), tree);
        x.write(!live);
        Due.is("write(" + live + ") of " + what + " again", x.write(live), due.length() / 2);
        Due.is("OUT of " + what + " again", Due.out(x), due);
        // What was written is read as the same tree.
        x.take(true);
        x.read();
        Due.is("the tree that is read of " + what, Edge.tree(x), tree);
    }

    private static Edge.Run read(String hex) {
        return x -> {
            Due.feed(x, hex);
            x.read();
        };
    }

    private static void nothing() {
        writes("no elements", x -> { }, false, "");
        writes("no elements", x -> { }, true, "");
        // OUT has none then, whatever it had.
        Bounded x = Edge.made(Edge::rich);
        x.clear();
        Due.is("write of none", x.write(false), 0);
        Due.is("OUT", Due.out(x), "");
    }

    // "numbers with the fewest bytes that give them, at least one."
    private static void numbers() {
        number(0, 1);
        number(1, 1);
        for (int bytes = 1; bytes < 8; bytes++) {
            number((1L << (8 * bytes)) - 1, bytes);
            number(1L << (8 * bytes), bytes + 1);
            number(1L << (8 * bytes - 1), bytes);
        }
        number(Long.MAX_VALUE, 8);
        number(Long.MIN_VALUE, 8);
        number(-1, 8);
        number(-256, 8);
    }

    private static void number(long value, int bytes) {
        String hex = String.format("%016X", value).substring(16 - 2 * bytes);
        Edge.Run made = x -> {
            x.make(-1, Due.HEAD, 0);
            x.make(0, Due.VERSION, value);
        };
        writes("number " + value, made, false, Edge.element(HEAD, Edge.element("4286", hex)));
        for (int id : new int[] {Due.WHEN, Due.WHOSE, Due.WHICH}) {
            writes("number " + value, x -> {
                x.make(-1, Due.SEGMENT, 0);
                x.make(0, Due.CUE, 0);
                x.make(1, id, value);
            }, false, Edge.element(SEGMENT, Edge.element("BB", Edge.element(String.format("%02X", id), hex))));
        }
    }

    private static void numbersThatWereRead() {
        for (String data : new String[] {"", "00", "0000000000000000"}) {
            writes("number " + data, read(Edge.element(HEAD, Edge.element("4286", data))), false,
                    HEAD + "84 4286 81 00");
        }
        writes("a number with bytes 0 before", read(HEAD + "8B 4286 88 0000000000000100"), false,
                HEAD + "85 4286 82 0100");
    }

    // "texts without bytes behind."
    private static void texts() {
        for (int letters : new int[] {0, 1, 15, 16}) {
            for (int zeros : new int[] {0, 1, 300}) {
                String text = "7E".repeat(letters);
                writes("a text", read(Edge.element(HEAD, Edge.element("4282", text + "00".repeat(zeros)))), false,
                        Edge.element(HEAD, Edge.element("4282", text)));
            }
        }
    }

    // "a VOID with bytes 0."
    private static void voids() {
        for (int bytes : new int[] {0, 1, 63, 64}) {
            writes("a VOID", x -> x.make(-1, Due.VOID, bytes), false, Edge.element("EC", "00".repeat(bytes)));
        }
        for (int bytes : new int[] {1, 65, 126, 127, 637}) {
            writes("a VOID that was read", read("EC" + Edge.vint(bytes, 2) + "AB".repeat(bytes)), false,
                    Edge.element("EC", "00".repeat(bytes)));
        }
    }

    // "sums as they are then."
    private static void sums() {
        writes("a sum of nothing", x -> {
            x.make(-1, Due.HEAD, 0);
            x.make(0, Due.CHECK, -1);
        }, false, HEAD + "86 BF84 00000000");
        String[] behind = {"EC80", "EC8100", "4286 81 FF", "4282 80", "8180"};
        for (String data : behind) {
            String hex = Edge.element(HEAD, "BF84" + Due.sum(data) + data);
            writes("a sum of " + data, read(hex), false, hex);
        }
        // Of what is written, not of what was read: the VOID's bytes and the number's length differ.
        String was = "EC82 0102 4286 83 000005";
        String then = "EC82 0000 4286 81 05";
        writes("a sum of other bytes", read(Edge.element(HEAD, "BF84" + Due.sum(was) + was)), false,
                Edge.element(HEAD, "BF84" + Due.sum(then) + then));
        // In each of its masters, with more behind each, and live.
        String in = "BF84" + Due.sum("EC8100") + "EC8100";
        String all = Edge.element(HEAD, in) + Edge.element(SEGMENT, Edge.element("AE", in) + Edge.element("BB", in)
                + "EC80");
        writes("three sums", read(all), false, all);
        writes("three sums", read(all), true, Edge.element(HEAD, in) + SEGMENT + "FF" + Edge.element("AE", in)
                + Edge.element("BB", in) + "EC80");
        // Of the most data that there can be.
        String most = Edge.element("81", "C3".repeat(625));
        String full = Edge.element(HEAD, "BF84" + Due.sum(most) + most);
        writes("a sum of 628 bytes", read(full), false, full);
    }

    private static void sumsBehindChanges() {
        Edge.Run run = x -> {
            x.make(-1, Due.HEAD, 0);
            x.make(0, Due.CHECK, 0);
            x.make(0, Due.TYPE, 0);
            x.write(false);
            x.letter(2, 'k');
        };
        String data = "4282 81 6B";
        writes("a sum behind a change", run, false, Edge.element(HEAD, "BF84" + Due.sum(data) + data));
    }

    private static String file(String data) {
        return SEGMENT + "FF" + CLUSTER + "FF" + Edge.element("A3", data);
    }

    // "A BLOCK's data": the track as the shortest vint, however it was read.
    private static void tracks() {
        for (int track : new int[] {1, 63, 64, 125, 126}) {
            for (int length = 1; length <= 8; length++) {
                writes("track " + track, read(file(Edge.vint(track, length) + "FFFF 80")), true,
                        file(Edge.vint(track, 1) + "FFFF 80"));
            }
        }
    }

    /** Writes a block with frames of these sizes, whose data begin so before the frames. */
    private static void laced(int lacing, String head, int... sizes) {
        Edge.Run run = x -> {
            x.make(-1, Due.SEGMENT, 0);
            x.make(0, Due.CLUSTER, 0);
            for (int size : sizes) {
                x.frame(size, 200);
            }
            x.block(1, 1, 2, false, lacing);
        };
        StringBuilder frames = new StringBuilder();
        for (int size : sizes) {
            for (int i = 0; i < size; i++) {
                frames.append(String.format("%02X", (200 + i) & 255));
            }
        }
        writes("lacing " + lacing, run, true, file("81 0002" + head + frames));
    }

    // "blocks with their lacing and the shortest sizes": lacing 1.
    private static void sizesInBytes() {
        laced(0, "00", 0);
        laced(0, "00", 300);
        laced(1, "0200", 0);
        laced(1, "0200", 300);
        laced(1, "0201 00", 0, 1);
        laced(1, "0201 FE", 254, 0);
        laced(1, "0201 FF00", 255, 0);
        laced(1, "0201 FF01", 256, 0);
        laced(1, "0201 FF2D", 300, 100);
        laced(1, "0207 01020304050607", 1, 2, 3, 4, 5, 6, 7, 8);
        writes("a frame of 510 bytes", read(file("81 0002 0202 FFFF00 00" + "AB".repeat(510))), true,
                file("81 0002 0202 FFFF00 00" + "AB".repeat(510)));
    }

    // "lacing 3: the shortest vint that can have that value and is not full of ones": the first size.
    private static void firstSizes() {
        laced(3, "0600", 9);
        laced(3, "0601 80", 0, 1);
        laced(3, "0601 FD", 125, 1);
        laced(3, "0601 FE", 126, 1);
        laced(3, "0601 407F", 127, 1);
        laced(3, "0601 4080", 128, 1);
        laced(3, "0601 412C", 300, 1);
        for (int length = 1; length <= 8; length++) {
            writes("a first size of " + length + " bytes",
                    read(file("81 0002 0601" + Edge.vint(3, length) + "ABABABCD")), true,
                    file("81 0002 0601 83 ABABABCD"));
        }
        writes("a first size of 520", read(file("81 0002 0601 10000208" + "AB".repeat(520))), true,
                file("81 0002 0601 4208" + "AB".repeat(520)));
    }

    // The same: the differences.
    private static void differences() {
        laced(3, "0602 80 BF", 0, 0, 1);
        laced(3, "0602 81 C0", 1, 2, 1);
        laced(3, "0602 82 BE", 2, 1, 1);
        laced(3, "0602 80 FD", 0, 62, 1);
        laced(3, "0602 80 FE", 0, 63, 1);
        laced(3, "0602 80 603F", 0, 64, 1);
        laced(3, "0602 80 6040", 0, 65, 1);
        laced(3, "0602 BE 81", 62, 0, 1);
        laced(3, "0602 BF 80", 63, 0, 1);
        laced(3, "0602 C0 5FBF", 64, 0, 1);
        laced(3, "0602 C1 5FBE", 65, 0, 1);
        laced(3, "0603 80 612B 5ED3", 0, 300, 0, 1);
        laced(3, "0607 81 C0 BE C0 BE C0 BE", 1, 2, 1, 2, 1, 2, 1, 2);
        for (int length = 1; length <= 8; length++) {
            String none = Edge.vint((1L << (7 * length - 1)) - 1, length);
            writes("a difference in " + length + " bytes", read(file("81 0002 0602 82" + none + "ABABCDCDEF")), true,
                    file("81 0002 0602 82 BF ABABCDCDEF"));
        }
    }

    // Lacing 2 has no sizes.
    private static void evenSizes() {
        laced(2, "0400", 0);
        laced(2, "0400", 300);
        laced(2, "0401", 200, 200);
        laced(2, "0407", 0, 0, 0, 0, 0, 0, 0, 0);
        laced(2, "0407", 50, 50, 50, 50, 50, 50, 50, 50);
    }

    // "FOREIGN data as they were."
    private static void foreignOnes() {
        for (String id : new String[] {"80", "FF", "4000", "7FFF", "200000", "3FFFFF", "10000000", "1FFFFFFF"}) {
            for (String data : new String[] {"", "00", "FF", "0F00EC80"}) {
                String hex = Edge.element(id, data);
                writes("FOREIGN " + hex, read(hex), false, hex);
                writes("FOREIGN " + hex, read(id + Edge.vint(data.length() / 2, 8) + data), true, hex);
            }
        }
    }

    // "When live is true, the sizes of all SEGMENTs and CLUSTERs are one byte 255 instead."
    private static void live() {
        Edge.Run run = x -> {
            x.make(-1, Due.SEGMENT, 0);
            x.make(0, Due.CLUSTER, 0);
            x.make(0, Due.CLUSTER, 0);
            x.make(0, Due.TRACK, 0);
            x.make(0, Due.CUE, 0);
            x.make(-1, Due.SEGMENT, 0);
            x.make(-1, Due.HEAD, 0);
            x.make(2, Due.TIME, 0);
        };
        String inside = CLUSTER + "FF" + CLUSTER + "FF E78100 AE80 BB80";
        writes("two SEGMENTs", run, true, SEGMENT + "FF" + inside + SEGMENT + "FF" + HEAD + "80");
        writes("two SEGMENTs", run, false, Edge.element(SEGMENT, CLUSTER + "80" + CLUSTER + "83 E78100 AE80 BB80")
                + SEGMENT + "80" + HEAD + "80");
        // One byte, where the size would have two.
        Edge.Run large = x -> {
            x.make(-1, Due.SEGMENT, 0);
            x.make(0, Due.VOID, 64);
            x.make(0, Due.VOID, 64);
        };
        String voids = Edge.element("EC", "00".repeat(64)).repeat(2);
        writes("a large SEGMENT", large, true, SEGMENT + "FF" + voids);
        writes("a large SEGMENT", large, false, SEGMENT + "4084" + voids);
    }

    /** VOIDs at the top which are written with so many bytes, 600 at the least. */
    private static void bytes(Bounded x, int n) {
        for (int i = 0; i < 9; i++) {
            x.make(-1, Due.VOID, 64);
        }
        x.make(-1, Due.VOID, n - 9 * 66 - 2);
    }

    // "LONG, refused, when there are more than 640."
    private static void tooLong() {
        for (int n = 638; n <= 640; n++) {
            int same = n;
            Edge.taken(n + " bytes", x -> bytes(x, same), x -> x.write(false), n);
            Edge.taken(n + " bytes, live", x -> bytes(x, same), x -> x.write(true), n);
            Edge.taken("the last of " + n, x -> {
                bytes(x, same);
                x.write(false);
            }, x -> x.out(same - 1), 0);
        }
        for (int n : new int[] {641, 642, 650}) {
            Edge.refused(n + " bytes", x -> bytes(x, n), x -> x.write(false), ElementFiles.LONG);
            Edge.refused(n + " bytes, live", x -> bytes(x, n), x -> x.write(true), ElementFiles.LONG);
        }
        // The most that a tree can have: 58 VOIDs of 64 bytes in a HEAD and a SEGMENT.
        Edge.Run most = x -> {
            Edge.rich(x);
            for (int i = 0; i < 47; i++) {
                x.make(3, Due.VOID, 64);
            }
        };
        Edge.refused("far too much", most, x -> x.write(false), ElementFiles.LONG);
        Edge.refused("far too much, live", most, x -> x.write(true), ElementFiles.LONG);
        // Blocks of 1200 bytes.
        Edge.Run blocks = x -> {
            x.make(-1, Due.SEGMENT, 0);
            x.make(0, Due.CLUSTER, 0);
            for (int i = 0; i < 4; i++) {
                x.frame(300, i);
                x.block(1, 1, 0, true, 0);
            }
        };
        Edge.refused("1200 bytes of frames", blocks, x -> x.write(false), ElementFiles.LONG);
    }

    /** A SEGMENT, with a CLUSTER when told, and in it VOIDs that are written with so many bytes. */
    private static Edge.Run within(boolean cluster, int n) {
        return x -> {
            int master = x.make(-1, Due.SEGMENT, 0);
            if (cluster) {
                master = x.make(0, Due.CLUSTER, 0);
            }
            for (int i = 0; i < 9; i++) {
                x.make(master, Due.VOID, 64);
            }
            x.make(master, Due.VOID, n - 9 * 66 - 2);
        };
    }

    // The same where sizes have two bytes each, or one when it is live.
    private static void tooLongLive() {
        Edge.taken("640 bytes", within(false, 634), x -> x.write(false), 640);
        Edge.taken("639 bytes, live", within(false, 634), x -> x.write(true), 639);
        Edge.refused("641 bytes", within(false, 635), x -> x.write(false), ElementFiles.LONG);
        Edge.taken("640 bytes, live", within(false, 635), x -> x.write(true), 640);
        Edge.refused("641 bytes, live", within(false, 636), x -> x.write(true), ElementFiles.LONG);
        Edge.taken("640 bytes", within(true, 628), x -> x.write(false), 640);
        Edge.refused("641 bytes", within(true, 629), x -> x.write(false), ElementFiles.LONG);
        Edge.taken("640 bytes, live", within(true, 630), x -> x.write(true), 640);
        Edge.refused("641 bytes, live", within(true, 631), x -> x.write(true), ElementFiles.LONG);
    }

    // One byte more in a master makes its size longer by one, too: 639, and then 641.
    private static void tooLongByOneSize() {
        for (int more = 0; more <= 1; more++) {
            int last = 58 + more;
            Edge.Run run = x -> {
                for (int i = 0; i < 7; i++) {
                    x.make(-1, Due.VOID, 64);
                }
                x.make(-1, Due.VOID, 44);
                x.make(-1, Due.HEAD, 0);
                x.make(8, Due.VOID, 64);
                x.make(8, Due.VOID, last);
            };
            if (more == 0) {
                Edge.taken("639 bytes", run, x -> x.write(false), 639);
            } else {
                Edge.refused("641 bytes", run, x -> x.write(false), ElementFiles.LONG);
            }
        }
    }

    // A refused write() leaves OUT as it was.
    private static void tooLongStays() {
        Edge.Run run = x -> {
            x.make(-1, Due.VOID, 2);
            x.write(false);
            for (int i = 0; i < 12; i++) {
                x.make(-1, Due.VOID, 64);
            }
        };
        Edge.refused("too long behind a short one", run, x -> x.write(false), ElementFiles.LONG);
        Bounded x = Edge.made(run);
        x.write(false);
        Due.is("OUT then", Due.out(x), "EC820000");
        Due.is("take(true) then", x.take(true), 4);
        x.clear();
        Due.is("a short one again", x.write(false), 0);
    }

    // "The elements of the TREE are numbered 0, 1, .. as they are written: a master before its children."
    private static void numbering() {
        Bounded x = Edge.made(Edge::rich);
        String tree = Edge.tree(x);
        x.write(false);
        x.take(true);
        Due.is("read() of what was written", x.read(), 13);
        Due.is("the same tree", Edge.tree(x), tree);
        x.make(-1, Due.VOID, 1);
        x.make(0, Due.VOID, 2);
        x.make(4, Due.VOID, 3);
        x.make(5, Due.VOID, 4);
        Due.is("numbers move", Due.shape(x), "1A45DFA3@-1 4286@0 4282@0 EC@0 18538067@-1 AE@4 BF@5 536E@5 EC@5 "
                + "1F43B675@4 E7@9 A3@9 BB@4 B3@12 EC@4 EC@-1 EC@-1");
        tree = Edge.tree(x);
        x.write(false);
        x.take(true);
        Due.is("read() of what was written", x.read(), 17);
        Due.is("the same tree", Edge.tree(x), tree);
    }
}
