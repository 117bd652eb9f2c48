/** Promises 1 to 4: a new object, feed, take, out. */
public final class BytesTest {
    public static void main(String[] args) {
        newObject();
        feeding();
        feedingTooMuch();
        taking();
        Due.finish();
    }

    private static void newObject() {
        Bounded x = new Bounded();
        Due.is("new: id(0)", x.id(0), ElementFiles.NONE);
        Due.is("new: out(0)", x.out(0), ElementFiles.NONE);
        Due.is("new: where()", x.where(), ElementFiles.NONE);
        Due.is("new: read()", x.read(), 0);
        Due.is("new: write()", x.write(false), 0);
        Due.is("new: take(true)", x.take(true), 0);
        Due.is("new: feed", x.feed(1, 1), 1);
        Bounded y = Due.withCluster();
        Due.is("new: no frames at hand", y.block(1, 1, 0, true, 1), ElementFiles.DATA);
    }

    private static void feeding() {
        Bounded x = new Bounded();
        Due.is("feed n = 0", x.feed(1, 0), ElementFiles.NONE);
        Due.is("feed n = 9", x.feed(1, 9), ElementFiles.NONE);
        Due.is("feed n = -1", x.feed(1, -1), ElementFiles.NONE);
        Due.is("feed n = MIN", x.feed(1, Integer.MIN_VALUE), ElementFiles.NONE);
        Due.is("feed n = MAX", x.feed(1, Integer.MAX_VALUE), ElementFiles.NONE);
        // FOREIGN 81 with six bytes: the lowest bytes are appended, the highest of them first.
        Due.is("feed 2", x.feed(0x7777777777778186L, 2), 2);
        Due.is("feed 3", x.feed(0xFFFFFFFFFF010203L, 3), 5);
        Due.is("feed 3", x.feed(0xFFFFFFL, 3), 8);
        Due.is("read", x.read(), 1);
        int[] want = {1, 2, 3, 255, 255, 255};
        for (int i = 0; i < want.length; i++) {
            Due.is("fed byte " + i, x.part(0, i), want[i]);
        }
        Bounded y = new Bounded();
        Due.is("feed 8", y.feed(0x8187FEDCBA987654L, 8), 8);
        Due.is("feed 1", y.feed(-1L, 1), 9);
        Due.is("read", y.read(), 1);
        int[] all = {0xFE, 0xDC, 0xBA, 0x98, 0x76, 0x54, 0xFF};
        for (int i = 0; i < all.length; i++) {
            Due.is("fed byte " + i, y.part(0, i), all[i]);
        }
    }

    private static void feedingTooMuch() {
        Bounded x = new Bounded();
        for (int i = 1; i < 80; i++) {
            Due.is("feed 8", x.feed(0, 8), 8 * i);
        }
        Due.is("feed 7", x.feed(0, 7), 639);
        Due.is("feed beyond 640", x.feed(0, 2), ElementFiles.LONG);
        Due.is("feed n = 9 when full", x.feed(0, 9), ElementFiles.NONE);
        Due.is("feed to 640", x.feed(0, 1), 640);
        Due.is("feed beyond 640", x.feed(0, 1), ElementFiles.LONG);
        Due.is("feed n = 0 when full", x.feed(0, 0), ElementFiles.NONE);
    }

    private static void taking() {
        Bounded x = new Bounded();
        x.feed(0x0F0F, 2);
        Due.is("take(true) of nothing", x.take(true), 0);
        Due.is("nothing is read", x.read(), 0);
        x.make(-1, Due.VOID, 3);
        Due.is("write", x.write(false), 5);
        Due.is("out(0)", x.out(0), 0xEC);
        Due.is("out(1)", x.out(1), 0x83);
        Due.is("out(4)", x.out(4), 0);
        Due.is("out(5)", x.out(5), ElementFiles.NONE);
        Due.is("out(-1)", x.out(-1), ElementFiles.NONE);
        Due.is("out(640)", x.out(640), ElementFiles.NONE);
        Due.is("out(MAX)", x.out(Integer.MAX_VALUE), ElementFiles.NONE);
        Due.is("out(MIN)", x.out(Integer.MIN_VALUE), ElementFiles.NONE);
        x.feed(0x0F, 1);
        Due.is("take(true) replaces", x.take(true), 5);
        Due.is("OUT stays", x.out(1), 0x83);
        Due.is("feed behind", x.feed(0xEC80, 2), 7);
        Due.is("OUT is apart from IN", x.out(5), ElementFiles.NONE);
        Due.is("read", x.read(), 2);
        Due.is("take(false)", x.take(false), 0);
        Due.is("OUT stays", x.out(0), 0xEC);
        Due.is("read of nothing", x.read(), 0);
        Due.is("shorter write", x.write(false), 0);
        Due.is("OUT has none", x.out(0), ElementFiles.NONE);
    }
}
