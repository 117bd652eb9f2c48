/** Promises 10, 11, 16 and 17: frame, block, sample, detail. */
public final class BlockTest {
    public static void main(String[] args) {
        frames();
        blocks();
        wrongBlocks();
        lacings();
        roomForElements();
        roomForBytes();
        roomAfterReads();
        samples();
        details();
        Due.finish();
    }

    private static void frames() {
        Bounded x = Due.withCluster();
        Due.is("n = -1", x.frame(-1, 0), ElementFiles.NONE);
        Due.is("n = 301", x.frame(301, 0), ElementFiles.NONE);
        Due.is("n = MIN", x.frame(Integer.MIN_VALUE, 0), ElementFiles.NONE);
        Due.is("n = MAX", x.frame(Integer.MAX_VALUE, 0), ElementFiles.NONE);
        Due.is("first = -1", x.frame(1, -1), ElementFiles.NONE);
        Due.is("first = 256", x.frame(1, 256), ElementFiles.NONE);
        Due.is("n = 300", x.frame(300, 255), 1);
        Due.is("beyond 400", x.frame(101, 0), ElementFiles.ROOM);
        Due.is("NONE before ROOM", x.frame(301, 0), ElementFiles.NONE);
        Due.is("to 400", x.frame(100, 0), 2);
        Due.is("beyond 400", x.frame(1, 0), ElementFiles.ROOM);
        Due.is("no more bytes", x.frame(0, 0), 3);
        for (int i = 4; i <= 8; i++) {
            Due.is("frame " + i, x.frame(0, 7), i);
        }
        Due.is("the ninth", x.frame(0, 0), ElementFiles.ROOM);
        Due.is("block of them", x.block(1, 1, 0, true, 1), 2);
        Due.is("how many", x.value(2), 8);
        Due.is("their bytes", x.sample(2, 0, 0), 255);
        Due.is("modulo 256", x.sample(2, 0, 1), 0);
        Due.is("modulo 256", x.sample(2, 0, 257), 0);
        Due.is("modulo 256", x.sample(2, 0, 299), 42);
        Due.is("the next frame", x.sample(2, 1, 0), 0);
        Due.is("its last byte", x.sample(2, 1, 99), 99);
        Due.is("there are none at hand then", x.frame(300, 0), 1);
    }

    private static void blocks() {
        Bounded x = Due.withCluster();
        x.make(0, Due.CLUSTER, 0);
        x.frame(3, 4);
        Due.is("block", x.block(2, 126, -32768, false, 0), 3);
        Due.is("none at hand", x.block(2, 1, 0, false, 0), ElementFiles.DATA);
        x.frame(1, 9);
        Due.is("block before it", x.block(1, 1, 32767, true, 3), 2);
        Due.is("order", Due.shape(x), "18538067@-1 1F43B675@0 A3@1 1F43B675@0 A3@3");
        Due.is("bytes stay with their block", x.sample(4, 0, 2), 6);
        Due.is("bytes stay with their block", x.sample(2, 0, 0), 9);
        Due.is("track", x.detail(4, 0), 126);
        Due.is("time", x.detail(4, 1), -32768);
        Due.is("key", x.detail(4, 2), 0);
        Due.is("lacing", x.detail(4, 3), 0);
        Due.is("track", x.detail(2, 0), 1);
        Due.is("time", x.detail(2, 1), 32767);
        Due.is("key", x.detail(2, 2), 1);
        Due.is("lacing", x.detail(2, 3), 3);
    }

    private static void wrongBlocks() {
        Bounded x = Due.withCluster();
        x.frame(2, 0);
        Due.is("parent -1", x.block(-1, 1, 0, true, 0), ElementFiles.NONE);
        Due.is("parent SEGMENT", x.block(0, 1, 0, true, 0), ElementFiles.NONE);
        Due.is("no parent", x.block(2, 1, 0, true, 0), ElementFiles.NONE);
        Due.is("NONE before DATA", x.block(2, 0, 0, true, 0), ElementFiles.NONE);
        Due.is("track 0", x.block(1, 0, 0, true, 0), ElementFiles.DATA);
        Due.is("track 127", x.block(1, 127, 0, true, 0), ElementFiles.DATA);
        Due.is("track MIN", x.block(1, Integer.MIN_VALUE, 0, true, 0), ElementFiles.DATA);
        Due.is("time 32768", x.block(1, 1, 32768, true, 0), ElementFiles.DATA);
        Due.is("time -32769", x.block(1, 1, -32769, true, 0), ElementFiles.DATA);
        Due.is("lacing -1", x.block(1, 1, 0, true, -1), ElementFiles.DATA);
        Due.is("lacing 4", x.block(1, 1, 0, true, 4), ElementFiles.DATA);
        Due.is("nothing was made", x.id(2), ElementFiles.NONE);
        Due.is("the frames stay", x.frame(1, 0), 2);
        Due.is("two with lacing 0", x.block(1, 1, 0, true, 0), ElementFiles.DATA);
        Due.is("uneven with lacing 2", x.block(1, 1, 0, true, 2), ElementFiles.DATA);
        Due.is("with lacing 1", x.block(1, 1, 0, true, 1), 2);
        Due.is("parent BLOCK", x.block(2, 1, 0, true, 0), ElementFiles.NONE);
        for (int lacing = 0; lacing < 4; lacing++) {
            Due.is("no frames", x.block(1, 1, 0, true, lacing), ElementFiles.DATA);
        }
    }

    private static void lacings() {
        for (int lacing = 0; lacing < 4; lacing++) {
            Bounded x = Due.withCluster();
            x.frame(0, 0);
            Due.is("one frame, lacing " + lacing, x.block(1, 1, 0, true, lacing), 2);
            Due.is("its lacing", x.detail(2, 3), lacing);
            x.frame(5, 0);
            x.frame(5, 1);
            Due.is("two even frames, lacing " + lacing, x.block(1, 1, 0, true, lacing),
                    lacing == 0 ? ElementFiles.DATA : 3);
            x.frame(6, 2);
            Due.is("and one more, lacing " + lacing, x.block(1, 1, 0, true, lacing),
                    lacing == 0 ? ElementFiles.DATA : 4);
        }
        Bounded y = Due.withCluster();
        y.frame(5, 0);
        y.frame(5, 0);
        y.frame(4, 0);
        Due.is("the last one is smaller", y.block(1, 1, 0, true, 2), ElementFiles.DATA);
    }

    private static void roomForElements() {
        Bounded x = Due.withCluster();
        for (int i = 2; i < 60; i++) {
            Due.is("block " + i, Due.addBlock(x, 1, 1, i, true), i);
        }
        Due.is("the 61st", Due.addBlock(x, 1, 1, 0, true), ElementFiles.ROOM);
        Due.is("DATA before ROOM", x.block(1, 0, 0, true, 0), ElementFiles.DATA);
        Due.is("NONE before ROOM", x.block(0, 1, 0, true, 0), ElementFiles.NONE);
        Due.is("the frame stays", x.frame(0, 0), 2);
    }

    private static void fill(Bounded x, int n) {
        x.frame(Math.min(n, 300), 1);
        x.frame(Math.max(n - 300, 0), 1);
    }

    private static void roomForBytes() {
        Bounded x = Due.withCluster();
        for (int i = 0; i < 3; i++) {
            fill(x, 400);
            Due.is("400 bytes", x.block(1, 1, 0, true, 1), 2 + i);
        }
        fill(x, 1);
        Due.is("the 1201st byte", x.block(1, 1, 0, true, 1), ElementFiles.ROOM);
        Due.is("DATA before ROOM", x.block(1, 0, 0, true, 1), ElementFiles.DATA);
        Due.is("the frames stay", x.frame(0, 0), 3);
        Due.is("other elements have room", x.make(1, Due.VOID, 64), 5);
        x.clear();
        x.make(-1, Due.SEGMENT, 0);
        x.make(0, Due.CLUSTER, 0);
        Due.is("room after clear", x.block(1, 1, 0, true, 1), 2);
        x.frame(0, 0);
        Due.is("no bytes", x.block(1, 1, 0, true, 0), 3);
        Bounded y = Due.withCluster();
        for (int i = 0; i < 3; i++) {
            fill(y, 400);
            y.block(1, 1, 0, true, 1);
        }
        y.frame(0, 0);
        Due.is("no more bytes than 1200", y.block(1, 1, 0, true, 0), 5);
        Due.is("its size", y.part(5, 0), 0);
        Due.is("the last bytes", y.sample(4, 1, 99), 100);
    }

    /** What is left of the 1200 bytes is what a block of 400, one of 400 and one of the rest find. */
    private static void hasRoomFor(String what, Bounded x, int bytes) {
        int segment = x.make(-1, Due.SEGMENT, 0);
        int cluster = x.make(segment, Due.CLUSTER, 0);
        int left = bytes;
        while (left > 0) {
            int n = Math.min(left, 400);
            fill(x, n);
            Due.is(what + ": room for " + n, Math.min(0, x.block(cluster, 1, 0, true, 1)), 0);
            left -= n;
        }
        fill(x, 1);
        Due.is(what + ": no more room", x.block(cluster, 1, 0, true, 1), ElementFiles.ROOM);
        x.clear();
        x.make(-1, Due.SEGMENT, 0);
        x.make(0, Due.CLUSTER, 0);
        Due.is(what + ": room after clear", x.block(1, 1, 0, true, 1), 2);
    }

    private static void roomAfterReads() {
        String segment = "18538067 FF 1F43B675 FF ";
        String block = "A3 88 81 0000 02 00 AABBCC ";
        Bounded x = Due.fed(segment + block + block + "8185 0102030405");
        Due.is("read", x.read(), 5);
        hasRoomFor("3 + 3 + 5 were read", x, 1189);
        Due.is("read again", x.read(), 5);
        hasRoomFor("read again", x, 1189);
        x.clear();
        hasRoomFor("after clear", x, 1200);
        // What was read before the fault counts too, but not the block in which it was met.
        Bounded y = Due.fed(segment + block + "8185 0102030405" + "A3 88 81 0000 03 00 AABBCC");
        Due.is("read with a fault", y.read(), ElementFiles.DATA);
        hasRoomFor("3 + 5 were read before the fault", y, 1192);
        // What index() takes out was read nonetheless.
        Bounded z = Due.fed("18538067 FF BB86 8184 01020304");
        Due.is("read", z.read(), 3);
        Due.is("index", z.index(0), 0);
        Due.is("taken out", z.id(1), ElementFiles.NONE);
        hasRoomFor("4 were read and taken out", z, 1196);
    }

    private static void samples() {
        Bounded x = Due.withCluster();
        x.frame(2, 254);
        x.frame(0, 3);
        x.frame(3, 100);
        x.block(1, 1, 0, true, 3);
        x.frame(1, 1);
        x.block(1, 1, 0, true, 0);
        Due.is("0, 0", x.sample(2, 0, 0), 254);
        Due.is("0, 1", x.sample(2, 0, 1), 255);
        Due.is("0, 2", x.sample(2, 0, 2), ElementFiles.NONE);
        Due.is("1, 0", x.sample(2, 1, 0), ElementFiles.NONE);
        Due.is("2, 0", x.sample(2, 2, 0), 100);
        Due.is("2, 2", x.sample(2, 2, 2), 102);
        Due.is("2, 3", x.sample(2, 2, 3), ElementFiles.NONE);
        Due.is("3, 0", x.sample(2, 3, 0), ElementFiles.NONE);
        Due.is("-1, 0", x.sample(2, -1, 0), ElementFiles.NONE);
        Due.is("0, -1", x.sample(2, 0, -1), ElementFiles.NONE);
        Due.is("MAX", x.sample(2, Integer.MAX_VALUE, 0), ElementFiles.NONE);
        Due.is("MAX", x.sample(2, 0, Integer.MAX_VALUE), ElementFiles.NONE);
        Due.is("MIN", x.sample(2, Integer.MIN_VALUE, Integer.MIN_VALUE), ElementFiles.NONE);
        Due.is("the next block", x.sample(3, 0, 0), 1);
        Due.is("no block", x.sample(1, 0, 0), ElementFiles.NONE);
        Due.is("none", x.sample(4, 0, 0), ElementFiles.NONE);
        Due.is("-1", x.sample(-1, 0, 0), ElementFiles.NONE);
        Bounded y = Due.fed("8182 0102");
        y.read();
        Due.is("of FOREIGN", y.sample(0, 0, 0), ElementFiles.NONE);
    }

    private static void details() {
        Bounded x = Due.withCluster();
        Due.addBlock(x, 1, 5, -7, true);
        Due.is("track", x.detail(2, 0), 5);
        Due.is("time", x.detail(2, 1), -7);
        Due.is("key", x.detail(2, 2), 1);
        Due.is("lacing", x.detail(2, 3), 0);
        Due.is("what 4", x.detail(2, 4), -65536);
        Due.is("what -1", x.detail(2, -1), -65536);
        Due.is("no block", x.detail(1, 0), -65536);
        Due.is("none", x.detail(3, 0), -65536);
        Due.is("-1", x.detail(-1, 0), -65536);
        Due.is("MAX", x.detail(Integer.MAX_VALUE, 0), -65536);
    }
}
