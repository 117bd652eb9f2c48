/** Promises 19 to 21: index, seek, jump. */
public final class FindTest {
    public static void main(String[] args) {
        indexing();
        indexingAgain();
        indexingWrongly();
        indexingWithoutRoom();
        seeking();
        seekingMoments();
        jumping();
        jumpingByOddCues();
        Due.finish();
    }

    /** SEGMENT 0: CLUSTER 1 (TIME 100, TIME 5, blocks 4 and 5), CLUSTER 6 (block 7), TRACK 8; HEAD 9. */
    private static Bounded sample() {
        Bounded x = Due.withCluster();
        x.make(1, Due.TIME, 100);
        x.make(1, Due.TIME, 5);
        Due.addBlock(x, 1, 1, -3, false);
        Due.addBlock(x, 1, 2, 4, true);
        x.make(0, Due.CLUSTER, 0);
        Due.addBlock(x, 6, 1, -9, true);
        x.make(0, Due.TRACK, 0);
        x.make(-1, Due.HEAD, 0);
        return x;
    }

    private static void cue(Bounded x, int k, long when, long whose, long which) {
        Due.is("CUE " + k, x.id(k), Due.CUE);
        Due.is("its children", x.value(k), 3);
        Due.is("WHEN", x.id(k + 1), Due.WHEN);
        Due.is("WHEN", x.value(k + 1), when);
        Due.is("WHOSE", x.id(k + 2), Due.WHOSE);
        Due.is("WHOSE", x.value(k + 2), whose);
        Due.is("WHICH", x.id(k + 3), Due.WHICH);
        Due.is("WHICH", x.value(k + 3), which);
    }

    private static void indexing() {
        Bounded x = sample();
        Due.is("index", x.index(0), 2);
        Due.is("shape", Due.shape(x), "18538067@-1 1F43B675@0 E7@1 E7@1 A3@1 A3@1 1F43B675@0 A3@6 AE@0 "
                + "BB@0 B3@9 F7@9 F1@9 BB@0 B3@13 F7@13 F1@13 1A45DFA3@-1");
        cue(x, 9, 104, 2, 1);
        cue(x, 13, -9, 1, 2);
        Bounded y = Due.withCluster();
        Due.is("no blocks", y.index(0), 0);
        Due.is("no CUEs", y.value(0), 1);
        Due.addBlock(y, 1, 3, 0, false);
        Due.is("no key block", y.index(0), 0);
        // The first TIME counts wherever it stands.
        Due.addBlock(y, 1, 3, 1, true);
        y.make(1, Due.TIME, Long.MAX_VALUE);
        Due.is("index", y.index(0), 1);
        cue(y, 5, Long.MIN_VALUE, 3, 1);
    }

    private static void indexingAgain() {
        // CUEs before, between and behind, one with a FOREIGN element, one in another SEGMENT.
        Bounded x = Due.fed("18538067 9A BB80 1F43B675 89 A384 81000180 E78164 BB86 8184 01020304 BB80"
                + "18538067 82 BB80 EC80");
        Due.is("read", x.read(), 11);
        Due.is("index", x.index(0), 1);
        Due.is("shape", Due.shape(x),
                "18538067@-1 1F43B675@0 A3@1 E7@1 BB@0 B3@4 F7@4 F1@4 18538067@-1 BB@8 EC@-1");
        cue(x, 4, 101, 1, 0);
        Due.is("the same again", x.index(0), 1);
        cue(x, 4, 101, 1, 0);
        Due.is("the other SEGMENT", x.index(8), 0);
        Due.is("shape", Due.shape(x), "18538067@-1 1F43B675@0 A3@1 E7@1 BB@0 B3@4 F7@4 F1@4 18538067@-1 EC@-1");
        x.make(0, Due.VOID, 2);
        Due.addBlock(x, 1, 9, 0, true);
        Due.is("behind the VOID", x.index(0), 2);
        Due.is("shape", Due.shape(x), "18538067@-1 1F43B675@0 A3@1 E7@1 A3@1 EC@0 "
                + "BB@0 B3@6 F7@6 F1@6 BB@0 B3@10 F7@10 F1@10 18538067@-1 EC@-1");
        cue(x, 10, 100, 9, 1);
        Due.is("bytes stay", x.sample(4, 0, 0), 7);
        x.write(false);
        x.take(true);
        Due.is("read back", x.read(), 16);
    }

    private static void indexingWrongly() {
        Bounded x = sample();
        Due.is("CLUSTER", x.index(1), ElementFiles.NONE);
        Due.is("HEAD", x.index(9), ElementFiles.NONE);
        Due.is("none", x.index(10), ElementFiles.NONE);
        Due.is("-1", x.index(-1), ElementFiles.NONE);
        Due.is("MAX", x.index(Integer.MAX_VALUE), ElementFiles.NONE);
        Due.is("nothing has changed", x.value(0), 3);
    }

    private static void indexingWithoutRoom() {
        // 2 + 11 + 4 * 11 = 57 elements; a VOID makes 58, three more 61.
        Bounded x = Due.withCluster();
        for (int i = 0; i < 11; i++) {
            Due.addBlock(x, 1, 1, i, true);
        }
        for (int i = 0; i < 3; i++) {
            x.make(-1, Due.VOID, i);
        }
        Due.is("60 elements", x.index(0), 11);
        Due.is("the last one", x.id(59), Due.VOID);
        Due.is("no 61st", x.make(-1, Due.VOID, 0), ElementFiles.ROOM);
        Due.is("again, as the old CUEs go", x.index(0), 11);
        Due.is("the last one", x.value(59), 2);
        Due.is("the last CUE", x.value(56), 10);
        Bounded y = Due.withCluster();
        y.make(0, Due.CUE, 0);
        for (int i = 0; i < 11; i++) {
            Due.addBlock(y, 1, 1, i, true);
        }
        for (int i = 0; i < 4; i++) {
            y.make(-1, Due.VOID, i);
        }
        Due.is("61 elements", y.index(0), ElementFiles.ROOM);
        Due.is("the old CUE stays", y.id(13), Due.CUE);
        Due.is("it has no child", y.value(13), 0);
        Due.is("children stay", y.value(0), 2);
        // CUEs that stand first are taken out too, so there is room for others.
        Bounded z = new Bounded();
        z.make(-1, Due.SEGMENT, 0);
        z.make(0, Due.CUE, 0);
        z.make(1, Due.WHEN, 5);
        z.make(0, Due.CLUSTER, 0);
        for (int i = 0; i < 11; i++) {
            Due.addBlock(z, 3, 1, i, true);
        }
        for (int i = 0; i < 3; i++) {
            z.make(-1, Due.VOID, i);
        }
        Due.is("60 elements, not 62", z.index(0), 11);
        Due.is("the last CUE", z.value(56), 10);
        Due.is("the last one", z.value(59), 2);
    }

    private static void seeking() {
        Bounded x = sample();
        Due.is("track 2", x.seek(0, 2, 104), 5);
        Due.is("track 2, before", x.seek(0, 2, 103), ElementFiles.NONE);
        Due.is("track 1", x.seek(0, 1, -9), 7);
        Due.is("track 1, before", x.seek(0, 1, -10), ElementFiles.NONE);
        Due.is("track 1, no key block", x.seek(0, 1, 1000), 7);
        Due.is("track 3", x.seek(0, 3, Long.MAX_VALUE), ElementFiles.NONE);
        Due.is("track 0", x.seek(0, 0, Long.MAX_VALUE), ElementFiles.NONE);
        Due.is("CLUSTER", x.seek(1, 1, 1000), ElementFiles.NONE);
        Due.is("HEAD", x.seek(9, 1, 1000), ElementFiles.NONE);
        Due.is("none", x.seek(10, 1, 1000), ElementFiles.NONE);
        Due.is("-1", x.seek(-1, 1, 1000), ElementFiles.NONE);
        x.make(-1, Due.SEGMENT, 0);
        x.make(10, Due.CLUSTER, 0);
        Due.addBlock(x, 11, 2, 0, true);
        Due.is("not in another SEGMENT", x.seek(0, 2, 104), 5);
        Due.is("in this SEGMENT", x.seek(10, 2, 104), 12);
    }

    private static void seekingMoments() {
        // The last one in the file, not the one with the greatest moment.
        Bounded x = Due.withCluster();
        Due.addBlock(x, 1, 1, 50, true);
        Due.addBlock(x, 1, 1, 20, true);
        Due.addBlock(x, 1, 1, 90, true);
        Due.addBlock(x, 1, 1, 10, false);
        Due.is("60", x.seek(0, 1, 60), 3);
        Due.is("90", x.seek(0, 1, 90), 4);
        Due.is("19", x.seek(0, 1, 19), ElementFiles.NONE);
        Due.is("MIN", x.seek(0, 1, Long.MIN_VALUE), ElementFiles.NONE);
        x.make(1, Due.TIME, Long.MAX_VALUE);
        Due.is("the sum wraps", x.seek(0, 1, Long.MIN_VALUE + 19), 3);
    }

    private static void jumping() {
        Bounded x = sample();
        Due.is("no CUEs", x.jump(0, 2, 104), ElementFiles.NONE);
        x.index(0);
        Due.is("track 2", x.jump(0, 2, 104), 5);
        Due.is("track 2, before", x.jump(0, 2, 103), ElementFiles.NONE);
        Due.is("track 1", x.jump(0, 1, -9), 7);
        Due.is("track 1, before", x.jump(0, 1, -10), ElementFiles.NONE);
        Due.is("track 3", x.jump(0, 3, 1000), ElementFiles.NONE);
        Due.is("CLUSTER", x.jump(1, 1, 1000), ElementFiles.NONE);
        Due.is("CUE", x.jump(9, 1, 1000), ElementFiles.NONE);
        Due.is("none", x.jump(99, 1, 1000), ElementFiles.NONE);
        Due.is("-1", x.jump(-1, 1, 1000), ElementFiles.NONE);
        // The CUEs stay as they were when blocks come.
        Due.addBlock(x, 6, 1, -20, true);
        Due.is("seek sees the new one", x.seek(0, 1, -9), 8);
        Due.is("jump does not", x.jump(0, 1, -9), 7);
    }

    private static void jumpingByOddCues() {
        Bounded x = Due.withCluster();
        Due.addBlock(x, 1, 5, 0, false);
        Due.addBlock(x, 1, 6, 0, false);
        x.make(0, Due.CUE, 0);
        Due.is("what it lacks is 0", x.jump(0, 0, 0), 2);
        Due.is("WHEN 0", x.jump(0, 0, -1), ElementFiles.NONE);
        Due.is("WHOSE 0", x.jump(0, 1, 0), ElementFiles.NONE);
        x.make(4, Due.WHICH, 1);
        x.make(4, Due.WHICH, 0);
        x.make(4, Due.WHEN, 10);
        x.make(4, Due.WHEN, 0);
        x.make(4, Due.WHOSE, 7);
        x.make(4, Due.WHOSE, 8);
        Due.is("the first of each", x.jump(0, 7, 10), 3);
        Due.is("the first WHEN", x.jump(0, 7, 9), ElementFiles.NONE);
        Due.is("the first WHOSE", x.jump(0, 8, 10), ElementFiles.NONE);
        for (long which : new long[] {2, -1, 1L << 32, Long.MIN_VALUE, Long.MAX_VALUE}) {
            Bounded y = Due.withCluster();
            Due.addBlock(y, 1, 5, 0, true);
            Due.addBlock(y, 1, 5, 0, true);
            y.index(0);
            y.make(0, Due.CUE, 0);
            y.make(12, Due.WHOSE, 5);
            y.make(12, Due.WHICH, which);
            Due.is("WHICH " + which, y.jump(0, 5, 0), ElementFiles.NONE);
            Due.is("seek needs no CUE", y.seek(0, 5, 0), 3);
        }
        Bounded z = Due.withCluster();
        Due.addBlock(z, 1, 5, 0, true);
        z.make(0, Due.CUE, 0);
        z.make(3, Due.WHOSE, (1L << 32) + 5);
        Due.is("WHOSE is a long", z.jump(0, 5, 0), ElementFiles.NONE);
        // The last CUE in the file, not the one with the greatest WHEN; blocks count over CLUSTERs.
        Bounded w = Due.withCluster();
        Due.addBlock(w, 1, 1, 50, true);
        Due.addBlock(w, 1, 1, 20, true);
        w.make(0, Due.CLUSTER, 0);
        Due.addBlock(w, 4, 1, 90, true);
        w.index(0);
        Due.is("60", w.jump(0, 1, 60), 3);
        Due.is("90", w.jump(0, 1, 90), 5);
    }
}
