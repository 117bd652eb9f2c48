/** The edges of promises 19 to 21: index, seek, jump. */
public final class FindEdgeTest {
    private static final int MIN = Integer.MIN_VALUE;
    private static final int MAX = Integer.MAX_VALUE;

    public static void main(String[] args) {
        indexNoSegment();
        indexNoBlocks();
        indexTakesOut();
        indexCues();
        indexMoments();
        indexTooMany();
        indexRefused();
        seekNoSegment();
        seekTracks();
        seekMoments();
        seekWraps();
        jumpNoSegment();
        jumpTracks();
        jumpMoments();
        jumpWhich();
        jumpLacks();
        jumpFirsts();
        jumpLast();
        Due.finish();
    }

    /** A SEGMENT 0 with a CLUSTER 1 and so many blocks of one byte in it, key blocks when told. */
    private static Edge.Run blocks(int n, boolean key) {
        return x -> {
            x.make(-1, Due.SEGMENT, 0);
            x.make(0, Due.CLUSTER, 0);
            for (int i = 0; i < n; i++) {
                Due.addBlock(x, 1, 1, i, key);
            }
        };
    }

    // Promise 19: "NONE when k is no SEGMENT."
    private static void indexNoSegment() {
        for (int k : new int[] {-1, -2, 0, 1, 2, 4, 5, 6, 7, 8, 9, 10, 11, 12, 13, 59, 60, MIN, MAX}) {
            Edge.refused("index(" + k + ")", Edge::rich, x -> x.index(k), ElementFiles.NONE);
        }
        for (int k : new int[] {-1, 1, 2, 3, 4, 5, 6, 7}) {
            Edge.refused("index(" + k + ")", Edge::rare, x -> x.index(k), ElementFiles.NONE);
        }
        Edge.refused("index of none", x -> { }, x -> x.index(0), ElementFiles.NONE);
        Edge.taken("index of the SEGMENT", Edge::rich, x -> x.index(3), 1);
        // NONE is named before ROOM.
        Edge.refused("NONE before ROOM", blocks(58, true), x -> x.index(1), ElementFiles.NONE);
    }

    private static void indexNoBlocks() {
        Edge.looked("an empty SEGMENT", x -> x.make(-1, Due.SEGMENT, 0), x -> x.index(0), 0);
        Edge.looked("an empty CLUSTER", blocks(0, true), x -> x.index(0), 0);
        Edge.looked("no key block", blocks(5, false), x -> x.index(0), 0);
        Edge.looked("no key block, 60 elements", blocks(58, false), x -> x.index(0), 0);
    }

    // Promise 19: "The CUEs of a SEGMENT are taken out (with all that is in them)."
    private static void indexTakesOut() {
        Bounded x = Edge.made(Edge::rare);
        Due.is("no key block", x.index(0), 0);
        Due.is("no CUE", Due.shape(x), "18538067@-1 1F43B675@0 A3@1 81@1 83@-1");
        Due.is("what stands behind is whole", x.part(4, 1), 18);
        // CUEs alone, as many as there can be, and those of another SEGMENT.
        Bounded y = Edge.made(z -> {
            z.make(-1, Due.SEGMENT, 0);
            z.make(-1, Due.SEGMENT, 0);
            z.make(1, Due.CUE, 0);
            for (int i = 0; i < 57; i++) {
                z.make(0, Due.CUE, 0);
            }
        });
        Due.is("60 elements", y.id(59), Due.CUE);
        Due.is("all CUEs go", y.index(0), 0);
        Due.is("the others stay", Due.shape(y), "18538067@-1 18538067@-1 BB@1");
        Due.is("there is room again", y.make(-1, Due.VOID, 0), 3);
        // Twice is the same as once.
        Bounded w = Edge.made(Edge.both(Edge::rich, z -> z.index(3)));
        String tree = Edge.tree(w);
        Due.is("again", w.index(3), 1);
        Due.is("the same tree", Edge.tree(w), tree);
        // They are taken out wherever they stand, and the new ones are the last children.
        Bounded v = Edge.made(z -> {
            z.make(-1, Due.SEGMENT, 0);
            z.make(0, Due.CUE, 0);
            z.make(1, Due.CHECK, 0);
            z.make(1, Due.WHEN, 5);
            z.make(0, Due.CLUSTER, 0);
            z.make(0, Due.CUE, 0);
            z.make(0, Due.VOID, 1);
            z.make(-1, Due.VOID, 2);
            Due.addBlock(z, 4, 9, 3, true);
        });
        Due.is("index", v.index(0), 1);
        Due.is("behind all others", Edge.tree(v), "18538067@-1=3(1 3 4 ) 1F43B675@0=1(2 ) A3@1=1(1 9 3 1 0 /7 ) "
                + "EC@0=1() BB@0=3(5 6 7 ) B3@4=3() F7@4=9() F1@4=0() EC@-1=2() ");
    }

    // Promise 19: "for each key block in it, in order, a CUE .. WHOSE: its track; WHICH: how many blocks stand
    // before it in the SEGMENT."
    private static void indexCues() {
        Bounded x = Edge.made(y -> {
            y.make(-1, Due.SEGMENT, 0);
            y.make(0, Due.CLUSTER, 0);
            Due.addBlock(y, 1, 126, 32767, true);
            Due.addBlock(y, 1, 1, 0, false);
            y.make(0, Due.CLUSTER, 0);
            Due.addBlock(y, 4, 1, -32768, true);
            y.make(-1, Due.SEGMENT, 0);
            y.make(6, Due.CLUSTER, 0);
            Due.addBlock(y, 7, 2, 5, true);
        });
        Due.is("index", x.index(0), 2);
        Due.is("the first CUE", cue(x, 6), "32767 126 0");
        Due.is("the second CUE", cue(x, 10), "-32768 1 2");
        Due.is("the other SEGMENT has none", x.value(14), 1);
        Due.is("index of the other", x.index(14), 1);
        Due.is("blocks before it are those of its own SEGMENT", cue(x, 17), "5 2 0");
    }

    private static String cue(Bounded x, int k) {
        Due.is("a CUE", x.id(k), Due.CUE);
        Due.is("with three children", x.value(k), 3);
        Due.is("WHEN", x.id(k + 1), Due.WHEN);
        Due.is("WHOSE", x.id(k + 2), Due.WHOSE);
        Due.is("WHICH", x.id(k + 3), Due.WHICH);
        return x.value(k + 1) + " " + x.value(k + 2) + " " + x.value(k + 3);
    }

    /** A SEGMENT with a CLUSTER of these TIMEs, and one key block of track 1 with this time. */
    private static Edge.Run timed(int time, long... times) {
        return x -> {
            x.make(-1, Due.SEGMENT, 0);
            x.make(0, Due.CLUSTER, 0);
            Due.addBlock(x, 1, 1, time, true);
            for (long one : times) {
                x.make(1, Due.TIME, one);
            }
        };
    }

    private static void momentIs(long due, int time, long... times) {
        Bounded x = Edge.made(Edge.both(timed(time, times), y -> y.index(0)));
        Due.is("the moment", cue(x, 3 + times.length), due + " 1 0");
        Edge.Run run = timed(time, times);
        Edge.taken("seek at it", run, y -> y.seek(0, 1, due), 2);
        if (due != Long.MIN_VALUE) {
            Edge.looked("seek before it", run, y -> y.seek(0, 1, due - 1), ElementFiles.NONE);
        }
        Due.is("jump at it", x.jump(0, 1, due), 2);
        if (due != Long.MIN_VALUE) {
            Due.is("jump before it", x.jump(0, 1, due - 1), ElementFiles.NONE);
        }
    }

    // Promise 19: "the value of the first TIME of its CLUSTER (0 when there is none) plus its time."
    private static void indexMoments() {
        momentIs(-32768, -32768);
        momentIs(32767, 32767);
        momentIs(0, 0);
        momentIs(100, 0, 100);
        momentIs(95, -5, 100, 7);
        momentIs(-1, -1, 0, 50);
        momentIs(Long.MAX_VALUE, 0, Long.MAX_VALUE);
        momentIs(Long.MIN_VALUE, 0, Long.MIN_VALUE);
        // The sum wraps, as longs do.
        momentIs(Long.MIN_VALUE, 1, Long.MAX_VALUE);
        momentIs(Long.MIN_VALUE + 32766, 32767, Long.MAX_VALUE);
        momentIs(Long.MAX_VALUE, -1, Long.MIN_VALUE);
        momentIs(Long.MAX_VALUE - 32767, -32768, Long.MIN_VALUE);
        // Another CLUSTER's TIME is not its own.
        Bounded x = Edge.made(Edge.both(timed(4), y -> {
            y.make(0, Due.CLUSTER, 0);
            y.make(3, Due.TIME, 1000);
            Due.addBlock(y, 3, 1, 6, true);
            y.index(0);
        }));
        Due.is("without a TIME", cue(x, 6), "4 1 0");
        Due.is("with one", cue(x, 10), "1006 1 1");
    }

    // Promise 19: "ROOM when there would be more than 60 elements."
    private static void indexTooMany() {
        // 2 + 5 * keys + others elements.
        for (int others = 2; others <= 4; others++) {
            int voids = others;
            Edge.Run run = Edge.both(blocks(11, true), x -> Edge.voids(x, voids));
            if (others <= 3) {
                Edge.taken((57 + others) + " elements", run, x -> x.index(0), 11);
                Edge.taken("its last element", Edge.both(run, x -> x.index(0)), x -> x.id(56 + voids), Due.VOID);
            } else {
                Edge.refused("61 elements", run, x -> x.index(0), ElementFiles.ROOM);
            }
        }
        // The CUEs that go do not count, wherever they stand.
        Edge.Run with = Edge.both(blocks(11, true), x -> {
            for (int i = 0; i < 6; i++) {
                x.make(x.make(0, Due.CUE, 0), Due.WHEN, i);
            }
            Edge.voids(x, 3);
        });
        Edge.taken("60 elements without the old CUEs", with, x -> x.index(0), 11);
        Edge.refused("61 elements without them", Edge.both(with, x -> x.make(0, Due.VOID, 0)), x -> x.index(0),
                ElementFiles.ROOM);
        Edge.Run first = x -> {
            x.make(-1, Due.SEGMENT, 0);
            x.make(0, Due.CUE, 0);
            x.make(1, Due.WHEN, 5);
            x.make(1, Due.VOID, 5);
            x.make(0, Due.CLUSTER, 0);
            for (int i = 0; i < 11; i++) {
                Due.addBlock(x, 4, 1, i, true);
            }
            Edge.voids(x, 3);
        };
        Edge.taken("60 elements without a CUE that stands first", first, x -> x.index(0), 11);
        Edge.refused("61 elements without it", Edge.both(first, x -> x.make(0, Due.VOID, 0)), x -> x.index(0),
                ElementFiles.ROOM);
        // Those of another SEGMENT do.
        Edge.Run other = Edge.both(blocks(11, true), x -> {
            x.make(-1, Due.SEGMENT, 0);
            x.make(13, Due.CUE, 0);
            x.make(13, Due.VOID, 0);
        });
        Edge.taken("60 elements with another SEGMENT's CUE", other, x -> x.index(0), 11);
        Edge.refused("61 elements with another SEGMENT's CUEs", Edge.both(other, x -> x.make(13, Due.CUE, 0)),
                x -> x.index(0), ElementFiles.ROOM);
        Edge.taken("60 elements, and again", Edge.both(blocks(11, true), x -> {
            Edge.voids(x, 3);
            x.index(0);
        }), x -> x.index(0), 11);
    }

    // A refused index() takes out none of the old CUEs.
    private static void indexRefused() {
        Edge.Run run = Edge.both(blocks(12, true), x -> {
            x.make(0, Due.CUE, 0);
            x.make(14, Due.WHICH, 3);
        });
        Edge.refused("62 elements", run, x -> x.index(0), ElementFiles.ROOM);
        Edge.Run full = Edge.both(blocks(57, true), x -> x.make(0, Due.CUE, 0));
        Edge.refused("far too many", full, x -> x.index(0), ElementFiles.ROOM);
        Bounded x = Edge.made(run);
        x.index(0);
        Due.is("jump by the old CUE", x.jump(0, 0, 0), 5);
    }

    // Promise 20: "NONE when there is none, or k is no SEGMENT."
    private static void seekNoSegment() {
        for (int k : new int[] {-1, -2, 0, 1, 2, 4, 5, 6, 7, 8, 9, 10, 11, 12, 13, 60, MIN, MAX}) {
            Edge.looked("seek(" + k + ")", Edge::rich, x -> x.seek(k, 3, 1000), ElementFiles.NONE);
        }
        Edge.looked("seek in the SEGMENT", Edge::rich, x -> x.seek(3, 3, 1000), 9);
        Edge.looked("seek in none", x -> { }, x -> x.seek(0, 1, 0), ElementFiles.NONE);
        Edge.looked("seek in an empty one", x -> x.make(-1, Due.SEGMENT, 0), x -> x.seek(0, 1, 0), ElementFiles.NONE);
        Edge.looked("seek without key blocks", blocks(5, false), x -> x.seek(0, 1, 99), ElementFiles.NONE);
        Edge.looked("seek among 58 blocks", blocks(58, true), x -> x.seek(0, 1, 99), 59);
    }

    // Promise 20: "that has the track."
    private static void seekTracks() {
        Edge.Run run = Edge.both(blocks(0, true), x -> {
            Due.addBlock(x, 1, 1, 0, true);
            Due.addBlock(x, 1, 126, 0, true);
            Due.addBlock(x, 1, 2, 0, false);
        });
        Edge.looked("track 1", run, x -> x.seek(0, 1, 0), 2);
        Edge.looked("track 126", run, x -> x.seek(0, 126, 0), 3);
        for (int track : new int[] {0, -1, 2, 3, 125, 127, 256 + 1, MIN, MIN + 1, MAX}) {
            Edge.looked("track " + track, run, x -> x.seek(0, track, Long.MAX_VALUE), ElementFiles.NONE);
        }
        // Not a block of another SEGMENT.
        Edge.Run two = Edge.both(run, x -> {
            x.make(-1, Due.SEGMENT, 0);
            x.make(5, Due.CLUSTER, 0);
            Due.addBlock(x, 6, 1, 0, true);
        });
        Edge.looked("in the first SEGMENT", two, x -> x.seek(0, 1, 0), 2);
        Edge.looked("in the second SEGMENT", two, x -> x.seek(5, 1, 0), 7);
        Edge.looked("track 126 in the second one", two, x -> x.seek(5, 126, 0), ElementFiles.NONE);
    }

    // Promise 20: "The last key block .. whose moment is not above one."
    private static void seekMoments() {
        Edge.Run run = Edge.both(blocks(0, true), x -> {
            Due.addBlock(x, 1, 1, 50, true);
            Due.addBlock(x, 1, 1, 20, true);
            x.make(0, Due.CLUSTER, 0);
            x.make(4, Due.TIME, 80);
            Due.addBlock(x, 4, 1, 10, true);
            Due.addBlock(x, 4, 1, -80, false);
        });
        long[][] due = {{Long.MIN_VALUE, -1}, {0, -1}, {19, -1}, {20, 3}, {49, 3}, {50, 3}, {89, 3}, {90, 6}, {91, 6},
            {Long.MAX_VALUE, 6}};
        for (long[] one : due) {
            Edge.looked("seek " + one[0], run, x -> x.seek(0, 1, one[0]), one[1]);
        }
    }

    private static void seekWraps() {
        Edge.Run run = Edge.both(timed(1, Long.MAX_VALUE), x -> Due.addBlock(x, 1, 1, 0, true));
        Edge.looked("the least moment", run, x -> x.seek(0, 1, Long.MIN_VALUE), 2);
        Edge.looked("nearly the greatest moment", run, x -> x.seek(0, 1, Long.MAX_VALUE - 1), 2);
        Edge.looked("the greatest moment", run, x -> x.seek(0, 1, Long.MAX_VALUE), 4);
    }

    // Promise 21: "NONE when there is none, or k is no SEGMENT."
    private static void jumpNoSegment() {
        for (int k : new int[] {-1, -2, 0, 1, 2, 4, 5, 6, 7, 8, 9, 10, 11, 12, 13, 60, MIN, MAX}) {
            Edge.looked("jump(" + k + ")", Edge::rich, x -> x.jump(k, 0, 1000), ElementFiles.NONE);
        }
        Edge.looked("jump in the SEGMENT", Edge::rich, x -> x.jump(3, 0, 96), 9);
        Edge.looked("jump before its WHEN", Edge::rich, x -> x.jump(3, 0, 95), ElementFiles.NONE);
        Edge.looked("jump in none", x -> { }, x -> x.jump(0, 1, 0), ElementFiles.NONE);
        Edge.looked("jump in an empty one", x -> x.make(-1, Due.SEGMENT, 0), x -> x.jump(0, 0, 0), ElementFiles.NONE);
        Edge.looked("jump without CUEs", blocks(3, true), x -> x.jump(0, 1, 99), ElementFiles.NONE);
        Edge.looked("jump without blocks", x -> {
            x.make(-1, Due.SEGMENT, 0);
            x.make(0, Due.CUE, 0);
        }, x -> x.jump(0, 0, 0), ElementFiles.NONE);
    }

    /** Three blocks 2, 3, 4 of track 1, and a CUE 5 with these numbers. */
    private static Edge.Run cued(long when, long whose, long which) {
        return Edge.both(blocks(3, false), x -> {
            x.make(0, Due.CUE, 0);
            x.make(5, Due.WHEN, when);
            x.make(5, Due.WHOSE, whose);
            x.make(5, Due.WHICH, which);
        });
    }

    // Promise 21: "whose first WHOSE is the track" (any number, not only 1 .. 126).
    private static void jumpTracks() {
        for (int track : new int[] {0, 1, 126, 127, -1, MIN, MAX}) {
            Edge.looked("WHOSE " + track, cued(0, track, 1), x -> x.jump(0, track, 0), 3);
            Edge.looked("WHOSE " + (track + 1L), cued(0, track + 1L, 1), x -> x.jump(0, track, 0), ElementFiles.NONE);
            long far = track + (1L << 32);
            Edge.looked("WHOSE " + far, cued(0, far, 1), x -> x.jump(0, track, 0), ElementFiles.NONE);
        }
    }

    // Promise 21: "whose first WHEN is not above the moment."
    private static void jumpMoments() {
        for (long when : new long[] {0, 1, -1, 1L << 32, Long.MAX_VALUE, Long.MIN_VALUE}) {
            Edge.looked("WHEN " + when, cued(when, 1, 1), x -> x.jump(0, 1, when), 3);
            Edge.looked("WHEN " + when, cued(when, 1, 1), x -> x.jump(0, 1, Long.MAX_VALUE), 3);
            if (when != Long.MIN_VALUE) {
                Edge.looked("before " + when, cued(when, 1, 1), x -> x.jump(0, 1, when - 1), ElementFiles.NONE);
                Edge.looked("before " + when, cued(when, 1, 1), x -> x.jump(0, 1, Long.MIN_VALUE), ElementFiles.NONE);
            }
        }
    }

    // Promise 21: "the block in the SEGMENT with as many blocks before it as its first WHICH says."
    private static void jumpWhich() {
        for (int which = 0; which < 3; which++) {
            int same = which;
            Edge.looked("WHICH " + which, cued(0, 1, same), x -> x.jump(0, 1, 0), 2 + which);
        }
        for (long which : new long[] {3, 4, 60, -1, 1L << 32, (1L << 32) + 1, Long.MAX_VALUE, Long.MIN_VALUE}) {
            Edge.looked("WHICH " + which, cued(0, 1, which), x -> x.jump(0, 1, 0), ElementFiles.NONE);
        }
        // Over CLUSTERs, but not over SEGMENTs.
        Edge.Run two = x -> {
            x.make(-1, Due.SEGMENT, 0);
            x.make(0, Due.CLUSTER, 0);
            x.make(0, Due.CLUSTER, 0);
            Due.addBlock(x, 1, 1, 0, true);
            Due.addBlock(x, 3, 1, 0, true);
            x.make(0, Due.CUE, 0);
            x.make(-1, Due.SEGMENT, 0);
            x.make(6, Due.CLUSTER, 0);
            Due.addBlock(x, 7, 1, 0, true);
        };
        Edge.looked("in the second CLUSTER", Edge.both(two, x -> x.make(5, Due.WHICH, 1)), x -> x.jump(0, 0, 0), 4);
        Edge.looked("not in the second SEGMENT", Edge.both(two, x -> x.make(5, Due.WHICH, 2)), x -> x.jump(0, 0, 0),
                ElementFiles.NONE);
    }

    // Promise 21: "(What a CUE lacks counts as 0.)"
    private static void jumpLacks() {
        Edge.Run bare = Edge.both(blocks(3, false), x -> x.make(0, Due.CUE, 0));
        Edge.looked("an empty CUE", bare, x -> x.jump(0, 0, 0), 2);
        Edge.looked("an empty CUE, before 0", bare, x -> x.jump(0, 0, -1), ElementFiles.NONE);
        Edge.looked("an empty CUE, track 1", bare, x -> x.jump(0, 1, 0), ElementFiles.NONE);
        Edge.looked("WHICH alone", Edge.both(bare, x -> x.make(5, Due.WHICH, 2)), x -> x.jump(0, 0, 0), 4);
        Edge.looked("WHOSE alone", Edge.both(bare, x -> x.make(5, Due.WHOSE, 2)), x -> x.jump(0, 2, 0), 2);
        Edge.looked("WHEN alone", Edge.both(bare, x -> x.make(5, Due.WHEN, -7)), x -> x.jump(0, 0, -7), 2);
        Edge.looked("a VOID and a CHECK", Edge.both(bare, x -> {
            x.make(5, Due.CHECK, 9);
            x.make(5, Due.VOID, 9);
        }), x -> x.jump(0, 0, 0), 2);
    }

    // Promise 21: "first WHOSE", "first WHEN", "first WHICH".
    private static void jumpFirsts() {
        Edge.Run twice = Edge.both(cued(10, 7, 1), x -> {
            x.make(5, Due.WHEN, 0);
            x.make(5, Due.WHOSE, 8);
            x.make(5, Due.WHICH, 2);
        });
        Edge.looked("the first of each", twice, x -> x.jump(0, 7, 10), 3);
        Edge.looked("the second WHEN", twice, x -> x.jump(0, 7, 9), ElementFiles.NONE);
        Edge.looked("the second WHOSE", twice, x -> x.jump(0, 8, 10), ElementFiles.NONE);
        // Those of the next CUE are not this one's.
        Edge.Run next = Edge.both(blocks(3, false), x -> {
            x.make(0, Due.CUE, 0);
            x.make(0, Due.CUE, 0);
            x.make(6, Due.WHOSE, 5);
            x.make(6, Due.WHICH, 2);
        });
        Edge.looked("the bare CUE", next, x -> x.jump(0, 0, 0), 2);
        Edge.looked("the next CUE", next, x -> x.jump(0, 5, 0), 4);
    }

    // Promise 21: "of those .. the last one."
    private static void jumpLast() {
        Edge.Run run = Edge.both(cued(50, 1, 0), x -> {
            x.make(0, Due.CUE, 0);
            x.make(9, Due.WHEN, 20);
            x.make(9, Due.WHOSE, 1);
            x.make(9, Due.WHICH, 1);
            x.make(0, Due.CUE, 0);
            x.make(13, Due.WHEN, 90);
            x.make(13, Due.WHOSE, 1);
            x.make(13, Due.WHICH, 5);
        });
        Edge.looked("19", run, x -> x.jump(0, 1, 19), ElementFiles.NONE);
        Edge.looked("20", run, x -> x.jump(0, 1, 20), 3);
        Edge.looked("50", run, x -> x.jump(0, 1, 50), 3);
        Edge.looked("89", run, x -> x.jump(0, 1, 89), 3);
        // The last one tells no block; those before it are not asked.
        Edge.looked("90", run, x -> x.jump(0, 1, 90), ElementFiles.NONE);
    }
}
