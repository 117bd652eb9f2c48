/** The edges of promises 10 and 11: frame and block. */
public final class BlockEdgeTest {
    private static final int MIN = Integer.MIN_VALUE;
    private static final int MAX = Integer.MAX_VALUE;
    private static final Edge.Run CLUSTER = x -> {
        x.make(-1, Due.SEGMENT, 0);
        x.make(0, Due.CLUSTER, 0);
    };

    public static void main(String[] args) {
        frameSizes();
        frameFirsts();
        frameTooMany();
        frameTooMuch();
        frameBytes();
        blockParents();
        blockTracks();
        blockTimes();
        blockLacings();
        blockWithoutFrames();
        blockOfSeveral();
        blockOfEvenOnes();
        blockBesideSixty();
        blockBeyond1200();
        roomAfterReading();
        roomAfterFaults();
        roomAfterOtherCalls();
        answersInOrder();
        framesGoToTheBlock();
        Due.finish();
    }

    /** A SEGMENT 0 with a CLUSTER 1, and frames of these sizes at hand. */
    private static Edge.Run hand(int... sizes) {
        return x -> {
            CLUSTER.on(x);
            for (int size : sizes) {
                x.frame(size, 0);
            }
        };
    }

    // Promise 10: "NONE when n is not 0 .. 300."
    private static void frameSizes() {
        for (int n : new int[] {-1, -2, -300, 301, 302, 400, 401, 256 * 256, MIN, MIN + 1, MAX}) {
            Edge.refused("frame of " + n, CLUSTER, x -> x.frame(n, 0), ElementFiles.NONE);
            Edge.refused("frame of " + n, Edge::rich, x -> x.frame(n, 255), ElementFiles.NONE);
        }
        for (int n : new int[] {0, 1, 2, 255, 256, 299, 300}) {
            Edge.taken("frame of " + n, CLUSTER, x -> x.frame(n, 0), 1);
            Edge.taken("its size", Edge.both(hand(n), x -> x.block(1, 1, 0, true, 0)), x -> x.part(2, 0), n);
        }
    }

    // Promise 10: ".. or first is not 0 .. 255."
    private static void frameFirsts() {
        for (int first : new int[] {-1, -2, -255, -256, 256, 257, 512, 65536, MIN, MIN + 255, MAX}) {
            Edge.refused("frame from " + first, Edge::rich, x -> x.frame(1, first), ElementFiles.NONE);
            Edge.refused("frame of none from " + first, Edge::rich, x -> x.frame(0, first), ElementFiles.NONE);
        }
        for (int first = 0; first < 256; first++) {
            int same = first;
            Edge.taken("frame from " + first, CLUSTER, x -> x.frame(1, same), 1);
            Edge.taken("its byte", Edge.both(CLUSTER, x -> {
                x.frame(1, same);
                x.block(1, 1, 0, true, 0);
            }), x -> x.sample(2, 0, 0), first);
        }
    }

    // Promise 10: "ROOM when there are 8."
    private static void frameTooMany() {
        Edge.taken("the seventh", hand(0, 0, 0, 0, 0, 0), x -> x.frame(1, 1), 7);
        Edge.taken("the eighth", hand(0, 0, 0, 0, 0, 0, 0), x -> x.frame(1, 1), 8);
        Edge.Run eight = hand(0, 1, 0, 2, 0, 3, 0, 4);
        Edge.refused("the ninth", eight, x -> x.frame(1, 1), ElementFiles.ROOM);
        Edge.refused("the ninth, of no bytes", eight, x -> x.frame(0, 0), ElementFiles.ROOM);
        Edge.refused("the ninth, too large", eight, x -> x.frame(301, 0), ElementFiles.NONE);
        Edge.refused("the ninth, from 256", eight, x -> x.frame(0, 256), ElementFiles.NONE);
        Edge.taken("the first of the next ones", Edge.both(eight, x -> x.block(1, 1, 0, true, 1)),
                x -> x.frame(300, 0), 1);
    }

    // Promise 10: ".. or they would have more than 400 bytes together."
    private static void frameTooMuch() {
        Edge.taken("100 behind 300", hand(300), x -> x.frame(100, 0), 2);
        Edge.refused("101 behind 300", hand(300), x -> x.frame(101, 0), ElementFiles.ROOM);
        Edge.refused("300 behind 300", hand(300), x -> x.frame(300, 0), ElementFiles.ROOM);
        Edge.refused("301 behind 300", hand(300), x -> x.frame(301, 0), ElementFiles.NONE);
        Edge.taken("300 behind 100", hand(50, 50), x -> x.frame(300, 0), 3);
        Edge.refused("300 behind 101", hand(50, 51), x -> x.frame(300, 0), ElementFiles.ROOM);
        Edge.taken("none behind 400", hand(300, 100), x -> x.frame(0, 0), 3);
        Edge.refused("1 behind 400", hand(300, 100), x -> x.frame(1, 0), ElementFiles.ROOM);
        Edge.taken("the last byte, as the eighth", hand(57, 57, 57, 57, 57, 57, 57), x -> x.frame(1, 0), 8);
        Edge.refused("one more, as the eighth", hand(57, 57, 57, 57, 57, 57, 57), x -> x.frame(2, 0),
                ElementFiles.ROOM);
        // A refused one has not taken any of the 400 bytes.
        Edge.taken("100 behind a refused one", Edge.both(hand(300), x -> x.frame(101, 0)), x -> x.frame(100, 0), 2);
    }

    // Promise 10: "first, first + 1, .. (modulo 256)."
    private static void frameBytes() {
        for (int first : new int[] {0, 1, 254, 255}) {
            Bounded x = Edge.made(CLUSTER);
            x.frame(300, first);
            x.frame(3, first);
            x.block(1, 1, 0, true, 1);
            for (int i = 0; i < 300; i++) {
                Due.is("byte " + i + " from " + first, x.sample(2, 0, i), (first + i) % 256);
            }
            Due.is("the first byte of the next frame", x.sample(2, 1, 0), first);
        }
    }

    // Promise 11: "NONE when parent is no CLUSTER."
    private static void blockParents() {
        for (int k : new int[] {-1, -2, 0, 1, 2, 3, 4, 5, 6, 8, 9, 10, 11, 12, 13, 59, 60, MIN, MAX}) {
            Edge.refused("block in " + k, Edge::rich, x -> x.block(k, 1, 0, true, 1), ElementFiles.NONE);
        }
        for (int k : new int[] {-1, 0, 2, 3, 4, 5, 6, 7}) {
            Edge.refused("block in " + k, Edge.both(Edge::rare, x -> x.frame(1, 1)), x -> x.block(k, 1, 0, true, 1),
                    ElementFiles.NONE);
        }
        Edge.refused("block in none", x -> x.frame(1, 1), x -> x.block(0, 1, 0, true, 0), ElementFiles.NONE);
        Edge.taken("block in the CLUSTER", Edge::rich, x -> x.block(7, 1, 0, true, 1), 10);
        Edge.taken("block in one that was read", Edge.both(Edge::rare, x -> x.frame(1, 1)),
                x -> x.block(1, 1, 0, true, 1), 4);
    }

    // Promise 11: "DATA when track .. is not as said" (1 .. 126).
    private static void blockTracks() {
        for (int track : new int[] {0, -1, 127, 128, 129, 256 + 1, 65536 + 1, MIN, MIN + 1, MAX}) {
            Edge.refused("track " + track, Edge::rich, x -> x.block(7, track, 0, true, 1), ElementFiles.DATA);
        }
        for (int track = 1; track <= 126; track++) {
            int same = track;
            Edge.taken("track " + track, Edge::rich, x -> x.block(7, same, 0, true, 1), 10);
            Edge.taken("and it is so", Edge.both(Edge::rich, x -> x.block(7, same, 0, true, 1)), x -> x.detail(10, 0),
                    track);
        }
    }

    // Promise 11: "DATA when .. time .. is not as said" (-32768 to 32767).
    private static void blockTimes() {
        for (int time : new int[] {-32769, 32768, -32770, 32769, -65536, 65535, 65536, MIN, MAX}) {
            Edge.refused("time " + time, Edge::rich, x -> x.block(7, 1, time, true, 1), ElementFiles.DATA);
        }
        for (int time : new int[] {-32768, -32767, -1, 0, 1, 32766, 32767}) {
            Edge.taken("time " + time, Edge::rich, x -> x.block(7, 1, time, true, 1), 10);
            Edge.taken("and it is so", Edge.both(Edge::rich, x -> x.block(7, 1, time, true, 1)), x -> x.detail(10, 1),
                    time);
        }
    }

    // Promise 11: "DATA when .. lacing is not as said" (0 to 3).
    private static void blockLacings() {
        for (int lacing : new int[] {-1, -2, -4, 4, 5, 6, 8, 128, 256, MIN, MIN + 1, MAX}) {
            Edge.refused("lacing " + lacing, hand(5), x -> x.block(1, 1, 0, true, lacing), ElementFiles.DATA);
            Edge.refused("lacing " + lacing, Edge::rich, x -> x.block(7, 1, 0, true, lacing), ElementFiles.DATA);
        }
        for (int lacing = 0; lacing <= 3; lacing++) {
            int same = lacing;
            Edge.taken("lacing " + lacing, hand(5), x -> x.block(1, 1, 0, true, same), 2);
            Edge.taken("and it is so", Edge.both(hand(5), x -> x.block(1, 1, 0, true, same)), x -> x.detail(2, 3),
                    lacing);
        }
    }

    // Promise 11: "DATA when .. there are no frames."
    private static void blockWithoutFrames() {
        Edge.Run used = Edge.both(hand(5), x -> x.block(1, 1, 0, true, 0));
        for (int lacing = 0; lacing <= 3; lacing++) {
            int same = lacing;
            Edge.refused("no frames, lacing " + lacing, CLUSTER, x -> x.block(1, 1, 0, true, same), ElementFiles.DATA);
            Edge.refused("none left, lacing " + lacing, used, x -> x.block(1, 1, 0, true, same), ElementFiles.DATA);
            Edge.taken("an empty frame, lacing " + lacing, hand(0), x -> x.block(1, 1, 0, true, same), 2);
        }
    }

    // Promise 11: "DATA when .. more than one with lacing 0."
    private static void blockOfSeveral() {
        int[] sizes = new int[8];
        for (int n = 1; n <= 8; n++) {
            int[] some = java.util.Arrays.copyOf(sizes, n);
            if (n == 1) {
                Edge.taken("one with lacing 0", hand(some), x -> x.block(1, 1, 0, true, 0), 2);
            } else {
                Edge.refused(n + " with lacing 0", hand(some), x -> x.block(1, 1, 0, true, 0), ElementFiles.DATA);
            }
            for (int lacing = 1; lacing <= 3; lacing++) {
                int same = lacing;
                Edge.taken(n + " with lacing " + lacing, hand(some), x -> x.block(1, 1, 0, true, same), 2);
                Edge.taken("how many", Edge.both(hand(some), x -> x.block(1, 1, 0, true, same)), x -> x.value(2), n);
            }
        }
    }

    // Promise 11: "DATA when .. not all of the same size with lacing 2."
    private static void blockOfEvenOnes() {
        int[][] even = {{0}, {300}, {0, 0}, {200, 200}, {50, 50, 50, 50, 50, 50, 50, 50}};
        for (int[] sizes : even) {
            Edge.taken("even ones", hand(sizes), x -> x.block(1, 1, 0, true, 2), 2);
        }
        int[][] uneven = {{0, 1}, {1, 0}, {5, 5, 4}, {5, 5, 6}, {5, 4, 5}, {4, 5, 5}, {255, 0}, {0, 256},
            {9, 9, 9, 9, 9, 9, 9, 8}};
        for (int[] sizes : uneven) {
            Edge.refused("uneven ones", hand(sizes), x -> x.block(1, 1, 0, true, 2), ElementFiles.DATA);
            Edge.taken("with lacing 1", hand(sizes), x -> x.block(1, 1, 0, true, 1), 2);
            Edge.taken("with lacing 3", hand(sizes), x -> x.block(1, 1, 0, true, 3), 2);
        }
    }

    // Promise 11: "ROOM when there are 60 elements."
    private static void blockBesideSixty() {
        for (int there = 58; there <= 60; there++) {
            int voids = there - 2;
            Edge.Run before = Edge.both(hand(3), x -> Edge.voids(x, voids));
            if (there < 60) {
                Edge.taken("block beside " + there, before, x -> x.block(1, 1, 0, true, 0), 2);
            } else {
                Edge.refused("block beside 60", before, x -> x.block(1, 1, 0, true, 0), ElementFiles.ROOM);
            }
        }
        Edge.refused("an empty block beside 60", Edge.both(hand(0), x -> Edge.voids(x, 58)),
                x -> x.block(1, 1, 0, true, 0), ElementFiles.ROOM);
    }

    /** A block of so many bytes, at most 400. */
    private static long add(Bounded x, int cluster, int bytes) {
        x.frame(Math.min(bytes, 300), 1);
        x.frame(Math.max(bytes - 300, 0), 1);
        return x.block(cluster, 1, 0, true, 1);
    }

    // Promise 11: "ROOM when .. the frames and data of all blocks and FOREIGN elements .. would have more than
    // 1200 bytes."
    private static void blockBeyond1200() {
        for (int there = 1198; there <= 1200; there++) {
            int rest = there - 800;
            Edge.Run before = Edge.both(CLUSTER, x -> {
                add(x, 1, 400);
                add(x, 1, 400);
                add(x, 1, rest);
            });
            for (int n = 0; n <= 3; n++) {
                int same = n;
                Edge.Run one = Edge.both(before, x -> x.frame(same, 9));
                if (there + n <= 1200) {
                    Edge.taken(n + " beside " + there, one, x -> x.block(1, 1, 0, true, 0), 5);
                    Edge.taken("its last byte", Edge.both(one, x -> x.block(1, 1, 0, true, 0)),
                            x -> x.sample(5, 0, same - 1), n == 0 ? ElementFiles.NONE : 9 + n - 1);
                } else {
                    Edge.refused(n + " beside " + there, one, x -> x.block(1, 1, 0, true, 0), ElementFiles.ROOM);
                }
            }
            Due.is("room beside " + there, Edge.room(before), 1200 - there);
        }
        // A block that was refused has not taken any of the bytes.
        Edge.Run refused = Edge.both(CLUSTER, x -> {
            add(x, 1, 400);
            add(x, 1, 400);
            add(x, 1, 300);
            add(x, 1, 101);
        });
        Edge.taken("none of the frames at hand were lost", refused, x -> x.frame(0, 0), 3);
        Edge.taken("other elements have room", refused, x -> x.make(1, Due.VOID, 64), 5);
        Edge.taken("after clear()", Edge.both(refused, Edge.both(Bounded::clear, CLUSTER)),
                x -> x.block(1, 1, 0, true, 1), 2);
    }

    // ".. that were .. read since the beginning of the latest read()."
    private static void roomAfterReading() {
        String open = Edge.SEGMENT + "FF" + Edge.CLUSTER + "FF ";
        String block = Edge.element("A3", "81 0000 02 01 02" + "5A".repeat(5));
        String foreign = Edge.element("81", "5B".repeat(7));
        String nothing = "E7880000000000000000 EC84 00000000" + Edge.element("A3", "81000000");
        String[][] files = {{open, "1200"}, {open + nothing, "1200"}, {open + block, "1195"},
            {open + foreign, "1193"}, {open + block + foreign + block, "1183"},
            {foreign + open + block, "1188"}, {open + block + Edge.SEGMENT + "FF" + foreign, "1188"},
            {Edge.element("81", "5C".repeat(637)), "563"}, {"8180", "1200"}, {"", "1200"}};
        for (String[] file : files) {
            Edge.Run read = x -> {
                Due.feed(x, file[0]);
                x.read();
            };
            Due.is("room after reading " + file[0], Edge.room(read), Integer.parseInt(file[1]));
            Due.is("room after reading it again", Edge.room(Edge.both(read, Bounded::read)),
                    Integer.parseInt(file[1]));
            Due.is("room after clear()", Edge.room(Edge.both(read, Bounded::clear)), 1200);
            // What there was before the read() does not count any more.
            Due.is("room after blocks and reading", Edge.room(Edge.both(Edge.both(CLUSTER, x -> add(x, 1, 400)), read)),
                    Integer.parseInt(file[1]));
            // What is made after it does.
            Due.is("room after reading and a block", Edge.room(Edge.both(read, x -> {
                x.make(-1, Due.SEGMENT, 0);
                for (int k = 0; x.id(k) >= 0; k++) {
                    if (x.id(k) == Due.SEGMENT && x.value(k) == 0) {
                        add(x, x.make(k, Due.CLUSTER, 0), 10);
                        return;
                    }
                }
            })), Integer.parseInt(file[1]) - 10);
        }
    }

    // The same when that read() met a fault: what it had read before counts, though the tree has none of it.
    private static void roomAfterFaults() {
        String open = Edge.SEGMENT + "FF" + Edge.CLUSTER + "FF ";
        String block = Edge.element("A3", "81 0000 00" + "5A".repeat(5));
        String foreign = Edge.element("81", "5B".repeat(7));
        String bad = Edge.element("A3", "81 0000 01" + "5A".repeat(5));
        String[][] files = {{"0F", "1200"}, {open + bad, "1200"}, {open + block + "0F", "1195"},
            {open + block + foreign + bad, "1188"}, {foreign + open + bad + foreign, "1193"},
            {open + foreign + "8184 000000", "1193"}, {open + block + "A386 8100000000", "1195"}};
        for (String[] file : files) {
            Edge.Run read = x -> {
                Due.feed(x, file[0]);
                x.read();
            };
            Edge.taken("a fault", y -> Due.feed(y, file[0]), x -> x.read() < 0 ? 1 : 0, 1);
            Due.is("room after the fault in " + file[0], Edge.room(read), Integer.parseInt(file[1]));
            Due.is("room after clear()", Edge.room(Edge.both(read, Bounded::clear)), 1200);
            Due.is("room after an empty read()", Edge.room(Edge.both(read, x -> {
                x.take(false);
                x.read();
            })), 1200);
        }
    }

    // ".. that were made or read since ..", so that neither taking out nor any other call gives room again.
    private static void roomAfterOtherCalls() {
        Due.is("room of rare", Edge.room(Edge::rare), 1191);
        Due.is("room when a CUE with a FOREIGN one is taken out", Edge.room(Edge.both(Edge::rare, x -> x.index(0))), 1191);
        Due.is("room after writing", Edge.room(Edge.both(Edge::rare, x -> x.write(true))), 1191);
        Due.is("room after taking", Edge.room(Edge.both(Edge::rare, x -> x.take(true))), 1191);
        Due.is("room after feeding", Edge.room(Edge.both(Edge::rare, x -> x.feed(0, 8))), 1191);
        Due.is("room after making", Edge.room(Edge.both(Edge::rare, x -> x.make(-1, Due.VOID, 64))), 1191);
        Due.is("room after searching", Edge.room(Edge.both(Edge::rare, x -> x.jump(0, x.seek(0, 1, 1), 1))), 1191);
        // Frames at hand count only when a block gets them.
        Edge.Run most = Edge.both(CLUSTER, x -> {
            add(x, 1, 400);
            add(x, 1, 400);
            x.frame(300, 0);
            x.frame(100, 0);
        });
        Edge.taken("400 at hand beside 800", most, x -> x.block(1, 1, 0, true, 1), 4);
    }

    // "of several answers below 0 that fit, it is the one that is named first": NONE, DATA, ROOM.
    private static void answersInOrder() {
        Edge.Run sixty = Edge.both(hand(3), x -> Edge.voids(x, 58));
        Edge.Run filled = Edge.both(CLUSTER, x -> {
            add(x, 1, 400);
            add(x, 1, 400);
            add(x, 1, 400);
            x.frame(1, 1);
        });
        for (Edge.Run run : java.util.List.of(sixty, filled)) {
            Edge.refused("NONE before DATA and ROOM", run, x -> x.block(0, 0, 0, true, 0), ElementFiles.NONE);
            Edge.refused("NONE before ROOM", run, x -> x.block(60, 1, 0, true, 0), ElementFiles.NONE);
            Edge.refused("DATA (track) before ROOM", run, x -> x.block(1, 127, 0, true, 0), ElementFiles.DATA);
            Edge.refused("DATA (time) before ROOM", run, x -> x.block(1, 1, 32768, true, 0), ElementFiles.DATA);
            Edge.refused("DATA (lacing) before ROOM", run, x -> x.block(1, 1, 0, true, 4), ElementFiles.DATA);
            Edge.refused("ROOM at last", run, x -> x.block(1, 1, 0, true, 0), ElementFiles.ROOM);
        }
        Edge.refused("DATA (no frames) before ROOM", Edge.both(CLUSTER, x -> Edge.voids(x, 58)),
                x -> x.block(1, 1, 0, true, 1), ElementFiles.DATA);
        Edge.refused("DATA (two frames) before ROOM", Edge.both(sixty, x -> x.frame(3, 1)),
                x -> x.block(1, 1, 0, true, 0), ElementFiles.DATA);
        Edge.refused("DATA (uneven) before ROOM", Edge.both(sixty, x -> x.frame(4, 1)),
                x -> x.block(1, 1, 0, true, 2), ElementFiles.DATA);
        Edge.refused("NONE without frames", CLUSTER, x -> x.block(0, 1, 0, true, 1), ElementFiles.NONE);
    }

    // Promise 11: "with the frames at hand, of which there are none then."
    private static void framesGoToTheBlock() {
        Edge.Run two = Edge.both(CLUSTER, x -> {
            x.frame(2, 254);
            x.frame(0, 3);
            x.frame(1, 77);
            x.block(1, 126, -32768, false, 3);
        });
        Edge.taken("none at hand then", two, x -> x.frame(300, 0), 1);
        Edge.taken("none at hand then", Edge.both(two, x -> x.frame(300, 0)), x -> x.frame(100, 0), 2);
        Edge.refused("none at hand then", two, x -> x.block(1, 1, 0, true, 1), ElementFiles.DATA);
        Due.is("the block", Edge.tree(Edge.made(two)), "18538067@-1=1(1 ) 1F43B675@0=1(2 ) "
                + "A3@1=3(2 0 1 126 -32768 0 3 /254 255 //77 ) ");
        // The last child of its CLUSTER, before the next CLUSTER's elements.
        Bounded x = Edge.made(Edge.both(two, y -> {
            y.make(0, Due.CLUSTER, 0);
            y.make(3, Due.TIME, 1);
            y.make(1, Due.TIME, 2);
            y.frame(1, 1);
        }));
        Due.is("behind the TIME", x.block(1, 1, 0, true, 0), 4);
        Due.is("the tree", Due.shape(x), "18538067@-1 1F43B675@0 A3@1 E7@1 A3@1 1F43B675@0 E7@5");
    }
}
