/**
 * Calls at the edges of what is taken. A run is made anew for each look at it, as some looks (at IN,
 * at the frames at hand, at the room for bytes) change what they look at.
 */
final class Edge {
    static final String HEAD = "1A45DFA3 ";
    static final String SEGMENT = "18538067 ";
    static final String CLUSTER = "1F43B675 ";

    /** Calls that bring a new object to where the edge is. */
    interface Run {
        void on(Bounded x);
    }

    /** The call at the edge. */
    interface Call {
        long on(Bounded x);
    }

    private Edge() {
    }

    static Bounded made(Run run) {
        Bounded x = new Bounded();
        run.on(x);
        return x;
    }

    static Run both(Run first, Run second) {
        return x -> {
            first.on(x);
            second.on(x);
        };
    }

    /** The call is answered so; what it changes is the test's own affair. */
    static void taken(String what, Run before, Call call, long due) {
        Due.is(what, call.on(made(before)), due);
    }

    /** The call is answered so, below 0, and nothing whatever has changed by it. */
    static void refused(String what, Run before, Call call, long due) {
        Due.is(what + " is refused", due < 0 ? 1 : 0, 1);
        looked(what, before, call, due);
    }

    /** The call is answered so, and nothing whatever has changed by it. */
    static void looked(String what, Run before, Call call, long due) {
        taken(what, before, call, due);
        Run after = x -> {
            before.on(x);
            call.on(x);
        };
        Due.is(what + ": what is seen then", seen(made(after)), seen(made(before)));
        Due.is(what + ": IN then", in(made(after)), in(made(before)));
        Due.is(what + ": the frames at hand then", atHand(made(after)), atHand(made(before)));
        Due.is(what + ": the room for bytes then", room(after), room(before));
    }

    /** A read() meets this fault there: the tree has none then, but IN, OUT and the frames stay. */
    static void fault(String hex, int due, int where) {
        Run before = x -> {
            full(x);
            Due.feed(x, hex);
        };
        Bounded x = made(before);
        Due.is("read() of " + shown(hex), x.read(), due);
        Due.is("where() after " + shown(hex), x.where(), where);
        Due.is("the tree after " + shown(hex), tree(x), "");
        Due.is("a second read() of " + shown(hex), x.read(), due);
        Due.is("OUT after " + shown(hex), Due.out(x), Due.out(made(before)));
        Due.is("the frames at hand after " + shown(hex), atHand(x), atHand(made(before)));
    }

    /** A read() meets no fault, and the tree has these IDs and masters. */
    static Bounded good(String hex, String shape) {
        Bounded x = made(y -> {
            full(y);
            Due.feed(y, hex);
        });
        int elements = x.read();
        Due.is("where() after " + shown(hex), x.where(), ElementFiles.NONE);
        Due.is("the tree after " + shown(hex), Due.shape(x), shape);
        Due.is("read() of " + shown(hex), elements, shape.isEmpty() ? 0 : shape.split(" ").length);
        return x;
    }

    /** Something in the tree, in OUT and at hand, which a read() may not mix up with what it reads. */
    private static void full(Bounded x) {
        x.make(-1, Due.HEAD, 0);
        x.make(0, Due.TYPE, 0);
        x.letter(1, 'q');
        x.write(false);
        x.frame(2, 8);
    }

    /**
     * A state with something of everything, after a fault at 3: HEAD 0 (VERSION 1, TYPE 2 "a"), SEGMENT 3
     * (TRACK 4 (CHECK 5, NAME 6 "xy"), CLUSTER 7 (TIME 8, BLOCK 9), CUE 10 (WHEN 11)), VOID 12; in IN a
     * FOREIGN element and a VOID, in OUT the tree without its last element, and two frames at hand.
     */
    static void rich(Bounded x) {
        Due.feed(x, "EC81 00 0F");
        x.read();
        x.take(false);
        Due.feed(x, "8182 0102 EC80");
        x.make(-1, Due.HEAD, 0);
        x.make(0, Due.VERSION, 7);
        x.make(0, Due.TYPE, 0);
        x.letter(2, 'a');
        x.make(-1, Due.SEGMENT, 0);
        x.make(3, Due.TRACK, 0);
        x.make(4, Due.CHECK, 0);
        x.make(4, Due.NAME, 0);
        x.letter(6, 'x');
        x.letter(6, 'y');
        x.make(3, Due.CLUSTER, 0);
        x.make(7, Due.TIME, 100);
        x.frame(2, 30);
        x.block(7, 3, -4, true, 0);
        x.make(3, Due.CUE, 0);
        x.make(10, Due.WHEN, 96);
        x.write(false);
        x.make(-1, Due.VOID, 3);
        x.frame(2, 8);
        x.frame(1, 255);
    }

    /** A tree that was read: SEGMENT 0 (CLUSTER 1 (BLOCK 2, FOREIGN 3), CUE 4 (FOREIGN 5)), FOREIGN 6. */
    static void rare(Bounded x) {
        Due.feed(x, SEGMENT + "9A" + CLUSTER + "8E A38A 8200050201020A0B0C0D 8180 BB85 8283 0E0F10 8382 1112");
        x.read();
    }

    private static String shown(String hex) {
        return hex.length() < 100 ? hex : hex.substring(0, 100) + "..";
    }

    /** All that calls which change nothing tell. */
    static String seen(Bounded x) {
        return "where " + x.where() + ", OUT " + Due.out(x) + ", tree " + tree(x);
    }

    /** The tree as all calls tell it. */
    static String tree(Bounded x) {
        StringBuilder tree = new StringBuilder();
        for (int k = 0; x.id(k) != ElementFiles.NONE; k++) {
            tree.append(String.format("%X@%d=%d(", x.id(k), x.parent(k), x.value(k)));
            for (int i = 0; x.part(k, i) != ElementFiles.NONE; i++) {
                tree.append(x.part(k, i)).append(' ');
            }
            if (x.id(k) == Due.BLOCK) {
                tree.append(block(x, k));
            }
            tree.append(") ");
        }
        return tree.toString();
    }

    private static String block(Bounded x, int k) {
        StringBuilder block = new StringBuilder();
        for (int what = 0; what < 4; what++) {
            block.append(x.detail(k, what)).append(' ');
        }
        for (int j = 0; j < x.value(k); j++) {
            block.append('/');
            for (int i = 0; i < x.part(k, j); i++) {
                block.append(x.sample(k, j, i)).append(' ');
            }
        }
        return block.toString();
    }

    /** What IN has, as far as it can be told: what is read of it, and how many bytes there are. */
    static String in(Bounded x) {
        return "read " + x.read() + ", " + seen(x) + ", feed " + x.feed(0, 1);
    }

    /** The frames at hand, as a block gets them; clears the tree. */
    static String atHand(Bounded x) {
        x.clear();
        x.make(-1, Due.SEGMENT, 0);
        x.make(0, Due.CLUSTER, 0);
        return x.block(1, 1, 0, false, 1) + " " + tree(x);
    }

    /** How many more bytes blocks can get after a run; -1 when no more blocks can be made. */
    static int room(Run run) {
        int fits = -1;
        int tooMuch = 1201;
        while (tooMuch - fits > 1) {
            int middle = (fits + tooMuch) / 2;
            if (hasRoom(made(run), middle)) {
                fits = middle;
            } else {
                tooMuch = middle;
            }
        }
        return fits;
    }

    private static boolean hasRoom(Bounded x, int bytes) {
        int cluster = anyCluster(x);
        if (cluster < 0) {
            return false;
        }
        // The frames at hand would come along with the first block.
        x.block(cluster, 1, 0, false, 1);
        int left = bytes;
        while (left > 0) {
            int n = Math.min(left, 300);
            if (x.frame(n, 0) < 0 || x.block(cluster, 1, 0, false, 1) < 0) {
                return false;
            }
            left -= n;
        }
        return true;
    }

    private static int anyCluster(Bounded x) {
        for (int k = 0; x.id(k) != ElementFiles.NONE; k++) {
            if (x.id(k) == Due.CLUSTER) {
                return k;
            }
        }
        return x.make(x.make(-1, Due.SEGMENT, 0), Due.CLUSTER, 0);
    }

    /** Makes so many VOIDs at the top, of no bytes. */
    static void voids(Bounded x, int n) {
        for (int i = 0; i < n; i++) {
            x.make(-1, Due.VOID, 0);
        }
    }

    /** Appends so many bytes to IN, which together are FOREIGN elements of no data. */
    static void fill(Bounded x, int n) {
        for (int i = 0; i + 8 <= n; i += 8) {
            x.feed(0x8180818081808180L, 8);
        }
        for (int i = 0; i < n % 8; i++) {
            x.feed(i % 2 == 0 ? 0x81 : 0x80, 1);
        }
    }

    /** An element in hexadecimal, with the shortest size. */
    static String element(String id, String data) {
        int size = Due.plain(data).length() / 2;
        return id + String.format(size < 127 ? "%02X" : "%04X", size < 127 ? 0x80 + size : 0x4000 + size) + data;
    }

    /** A vint of so many bytes in hexadecimal. */
    static String vint(long value, int length) {
        long whole = (1L << (7 * length)) | value;
        return String.format("%0" + 2 * length + "X", whole);
    }

    /** The vint of so many bytes that is full of ones. */
    static String ones(int length) {
        return vint((1L << (7 * length)) - 1, length);
    }
}
