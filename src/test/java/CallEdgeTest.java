/** The edges of promises 1 to 4 and 7 to 9: a new object, feed, take, out, clear, make, letter. */
public final class CallEdgeTest {
    private static final int MIN = Integer.MIN_VALUE;
    private static final int MAX = Integer.MAX_VALUE;
    private static final int[] IDS = {Due.HEAD, Due.SEGMENT, Due.VERSION, Due.TYPE, Due.TRACK, Due.NUMBER, Due.NAME,
        Due.CLUSTER, Due.TIME, Due.BLOCK, Due.CUE, Due.WHEN, Due.WHOSE, Due.WHICH, Due.CHECK, Due.VOID, 0x81};

    public static void main(String[] args) {
        states();
        newObject();
        feedHowMany();
        feedWhich();
        feedTooMuch();
        takeAll();
        takeNone();
        outEdges();
        clearEdges();
        makeParents();
        makeMisplaced();
        makeInLeaves();
        makeChecks();
        makeVoids();
        makeNumbers();
        makeTooMany();
        makeInOrderOfAnswers();
        letterCodes();
        letterElements();
        letterTooMany();
        Due.finish();
    }

    /** The two states in which calls are refused are what they are said to be. */
    private static void states() {
        Bounded x = Edge.made(Edge::rich);
        Due.is("rich", Due.shape(x), "1A45DFA3@-1 4286@0 4282@0 18538067@-1 AE@3 BF@4 536E@4 1F43B675@3 E7@7 A3@7 "
                + "BB@3 B3@10 EC@-1");
        Due.is("its fault", x.where(), 3);
        Due.is("its IN", x.feed(0, 1), 7);
        Due.is("its OUT", x.out(0), 0x1A);
        Due.is("its frames at hand", x.frame(0, 0), 3);
        Due.is("its room for bytes", Edge.room(Edge::rich), 1200 - 2 - 3);
        Bounded y = Edge.made(Edge::rare);
        Due.is("rare", Due.shape(y), "18538067@-1 1F43B675@0 A3@1 81@1 BB@0 82@4 83@-1");
        Due.is("its room for bytes", Edge.room(Edge::rare), 1200 - 4 - 3 - 2);
    }

    // Promise 1: "No elements, no frames at hand, no bytes in IN or OUT."
    private static void newObject() {
        Edge.Run none = x -> { };
        Due.is("new: tree, OUT and where()", Edge.seen(Edge.made(none)), "where -1, OUT , tree ");
        Due.is("new: IN", Edge.in(Edge.made(none)), "read 0, where -1, OUT , tree , feed 1");
        Due.is("new: room for bytes", Edge.room(none), 1200);
        for (int lacing = 0; lacing < 4; lacing++) {
            int same = lacing;
            Edge.refused("new: no frames at hand", x -> {
                x.make(-1, Due.SEGMENT, 0);
                x.make(0, Due.CLUSTER, 0);
            }, x -> x.block(1, 1, 0, true, same), ElementFiles.DATA);
        }
        Edge.taken("new: the first frame", none, x -> x.frame(1, 1), 1);
        Edge.taken("new: take(true)", none, x -> x.take(true), 0);
        Edge.taken("new: write", none, x -> x.write(false), 0);
        Edge.taken("new: the first element", none, x -> x.make(-1, Due.HEAD, 0), 0);
        // Objects have nothing in common.
        Bounded x = Edge.made(Edge::rich);
        Due.is("new: another object", Edge.seen(new Bounded()), "where -1, OUT , tree ");
        Due.is("rich nonetheless", x.value(3), 3);
    }

    // Promise 2: "NONE when n is not 1 .. 8."
    private static void feedHowMany() {
        for (int n : new int[] {0, 9, -1, -8, 10, 64, MIN, MIN + 1, MIN + 8, MAX, 256 + 1, 65536 + 8}) {
            Edge.refused("feed n = " + n, Edge::rich, x -> x.feed(0x8180, n), ElementFiles.NONE);
            Edge.refused("feed n = " + n + ", IN empty", x -> { }, x -> x.feed(0x8180, n), ElementFiles.NONE);
        }
        for (int n = 1; n <= 8; n++) {
            int same = n;
            Edge.taken("feed n = " + n, x -> { }, x -> x.feed(-1, same), n);
            Edge.taken("feed n = " + n + ", behind 6", Edge::rich, x -> x.feed(-1, same), 6 + n);
        }
    }

    // Promise 2: "Appends the n lowest bytes of a long to IN, the highest of them first."
    private static void feedWhich() {
        long bytes = 0xF1E2D3C4B5A69788L;
        for (int n = 1; n <= 8; n++) {
            Bounded x = new Bounded();
            x.feed(0x8100 + 0x80 + n + 1, 2);
            x.feed(bytes, n);
            x.feed(0x77, 1);
            Due.is("read() after feed n = " + n, x.read(), 1);
            for (int i = 0; i < n; i++) {
                Due.is("byte " + i + " of " + n, x.part(0, i), (bytes >>> (8 * (n - 1 - i))) & 255);
            }
            Due.is("the byte behind", x.part(0, n), 0x77);
        }
        for (long odd : new long[] {0, -1, Long.MIN_VALUE, Long.MAX_VALUE}) {
            Bounded x = new Bounded();
            x.feed(0x8188, 2);
            x.feed(odd, 8);
            x.read();
            Due.is("the highest byte of " + odd, x.part(0, 0), (odd >>> 56) & 255);
            Due.is("the lowest byte of " + odd, x.part(0, 7), odd & 255);
        }
    }

    // Promise 2: "LONG when there would be more than 640."
    private static void feedTooMuch() {
        for (int n = 1; n <= 8; n++) {
            int same = n;
            for (int there = 640 - n - 1; there <= 640; there++) {
                int filled = there;
                Edge.Run before = x -> Edge.fill(x, filled);
                if (there + n <= 640) {
                    Edge.taken("feed " + n + " behind " + there, before, x -> x.feed(0, same), there + n);
                } else {
                    Edge.refused("feed " + n + " behind " + there, before, x -> x.feed(0, same), ElementFiles.LONG);
                }
            }
        }
        // NONE is named first.
        for (int n : new int[] {0, 9, -1, MIN, MAX}) {
            Edge.refused("feed n = " + n + ", full", x -> Edge.fill(x, 640), x -> x.feed(0, n), ElementFiles.NONE);
        }
        // A full IN can be emptied and filled again.
        Bounded x = Edge.made(y -> Edge.fill(y, 640));
        Due.is("take(false) when full", x.take(false), 0);
        Due.is("feed then", x.feed(0, 8), 8);
    }

    // Promise 3: "IN gets the bytes of OUT .. Answers how many it has then."
    private static void takeAll() {
        Edge.taken("take(true), OUT empty, IN too", x -> { }, x -> x.take(true), 0);
        Edge.taken("take(true), OUT empty, IN full", x -> Edge.fill(x, 640), x -> x.take(true), 0);
        Bounded x = Edge.made(y -> {
            Edge.fill(y, 640);
            y.take(true);
        });
        Due.is("IN is empty then", x.read(), 0);
        Due.is("and can be fed", x.feed(0x8180, 2), 2);
        Edge.Run most = y -> {
            written640(y);
            y.feed(0x0F, 1);
        };
        Edge.taken("take(true) of 640", most, y -> y.take(true), 640);
        Bounded z = Edge.made(most);
        String out = Due.out(z);
        z.take(true);
        Due.is("OUT stays", Due.out(z), out);
        Due.is("IN is full then", z.feed(0, 1), ElementFiles.LONG);
        Due.is("read() of 640", z.read(), 10);
        Due.is("write() of what was read", z.write(false), 640);
        Due.is("it is the same", Due.out(z), out);
        // IN is apart from OUT then.
        Bounded w = Edge.made(Edge::rich);
        int taken = w.take(true);
        Due.is("feed behind what was taken", w.feed(0xEC80, 2), taken + 2);
        Due.is("OUT has not got it", w.out(taken), ElementFiles.NONE);
    }

    /** Ten VOIDs, written as 640 bytes. */
    private static void written640(Bounded x) {
        for (int i = 0; i < 9; i++) {
            x.make(-1, Due.VOID, 64);
        }
        x.make(-1, Due.VOID, 44);
        x.write(false);
    }

    // Promise 3: ".. or none when all is false."
    private static void takeNone() {
        Edge.taken("take(false), all empty", x -> { }, x -> x.take(false), 0);
        Bounded x = Edge.made(Edge::rich);
        String seen = Edge.seen(x);
        Due.is("take(false)", x.take(false), 0);
        Due.is("tree, OUT and where() stay", Edge.seen(x), seen);
        Due.is("IN has none", x.feed(0x8180, 2), 2);
        Due.is("and reads so", x.read(), 1);
        Due.is("the frames at hand stay", x.frame(0, 0), 3);
    }

    // Promise 4: "Byte i of OUT; NONE when there is none."
    private static void outEdges() {
        for (int i : new int[] {-1, 0, 1, 639, 640, MIN, MAX}) {
            Edge.refused("out(" + i + ") of none", x -> { }, x -> x.out(i), ElementFiles.NONE);
        }
        Edge.Run one = x -> {
            x.make(-1, Due.VOID, 3);
            x.write(false);
        };
        Edge.taken("the first byte", one, x -> x.out(0), 0xEC);
        Edge.taken("the last byte", one, x -> x.out(4), 0);
        for (int i : new int[] {5, 6, -1, -2, -5, 639, 640, 641, 256, 65536, MIN, MIN + 1, MAX}) {
            Edge.refused("out(" + i + ") of 5", one, x -> x.out(i), ElementFiles.NONE);
        }
        Edge.taken("byte 639 of 640", CallEdgeTest::written640, x -> x.out(639), 0);
        Edge.refused("byte 640 of 640", CallEdgeTest::written640, x -> x.out(640), ElementFiles.NONE);
        // What an earlier, longer OUT had is not there any more.
        Edge.Run shorter = x -> {
            written640(x);
            x.clear();
            x.make(-1, Due.VOID, 0);
            x.write(false);
        };
        Edge.taken("the last byte of 2", shorter, x -> x.out(1), 0x80);
        Edge.refused("behind it", shorter, x -> x.out(2), ElementFiles.NONE);
    }

    // Promise 7: "There are no elements any more."
    private static void clearEdges() {
        Bounded x = Edge.made(y -> {
            Edge.voids(y, 60);
            y.clear();
        });
        Due.is("clear of 60", Edge.tree(x), "");
        for (int k : new int[] {-1, 0, 59, 60}) {
            Due.is("id(" + k + ")", x.id(k), ElementFiles.NONE);
        }
        Due.is("no parent", x.make(0, Due.VOID, 0), ElementFiles.NONE);
        Due.is("the first element", x.make(-1, Due.VOID, 0), 0);
        x.clear();
        x.clear();
        Due.is("clear of none", Edge.tree(x), "");
        Bounded y = Edge.made(Edge::rich);
        String out = Due.out(y);
        y.clear();
        Due.is("OUT stays", Due.out(y), out);
        Due.is("where() stays", y.where(), 3);
        Due.is("IN stays", y.feed(0, 1), 7);
        Due.is("the frames at hand stay", y.frame(0, 0), 3);
        // Nothing of the old elements is in the new ones.
        Edge.voids(y, 12);
        Due.is("new elements", Edge.tree(y), "EC@-1=0() ".repeat(12));
        Bounded z = Edge.made(Edge::rich);
        z.clear();
        z.make(-1, Due.SEGMENT, 99);
        z.make(0, Due.TRACK, 99);
        z.make(1, Due.NAME, 99);
        z.make(1, Due.NUMBER, 99);
        Due.is("new elements", Edge.tree(z), "18538067@-1=1(1 ) AE@0=2(2 3 ) 536E@1=0() D7@1=99() ");
    }

    // Promise 8: "NONE when parent is not -1 and no such element."
    private static void makeParents() {
        int[] ids = {Due.HEAD, Due.VOID, Due.VERSION, Due.BLOCK, Due.CHECK, 0x81, 0};
        for (int id : ids) {
            for (int parent : new int[] {13, 14, 59, 60, 61, -2, -3, MIN, MAX}) {
                Edge.refused("make in " + parent, Edge::rich, x -> x.make(parent, id, 0), ElementFiles.NONE);
            }
            for (int parent : new int[] {0, 1, -2, 60, MIN, MAX}) {
                Edge.refused("make in " + parent, x -> { }, x -> x.make(parent, id, 0), ElementFiles.NONE);
            }
        }
        Edge.taken("at the top", Edge::rich, x -> x.make(-1, Due.HEAD, 0), 13);
        Edge.taken("in the first", Edge::rich, x -> x.make(0, Due.VERSION, 0), 3);
        Edge.Run last = x -> {
            Edge.rich(x);
            x.make(-1, Due.HEAD, 0);
        };
        Edge.taken("in the last", last, x -> x.make(13, Due.VERSION, 0), 14);
        Edge.refused("behind the last", last, x -> x.make(14, Due.VERSION, 0), ElementFiles.NONE);
    }

    // Promise 8: "MISPLACED when id is BLOCK's or a FOREIGN one's, it may not stand there."
    private static void makeMisplaced() {
        int[] masters = {-1, 0, 3, 4, 7, 10};
        int[] never = {Due.BLOCK, 0x81, 0xAF, 0xFF, 0, -1, 1, 0x4285, 0x4287, 0x406C, MIN, MAX, -Due.VOID,
            Due.HEAD + 1, Due.SEGMENT - 1, Due.VOID + 256};
        for (int parent : masters) {
            for (int id : never) {
                Edge.refused(String.format("make %X in %d", id, parent), Edge::rich, x -> x.make(parent, id, 0),
                        ElementFiles.MISPLACED);
            }
        }
    }

    // In what is no master, nothing may stand.
    private static void makeInLeaves() {
        Edge.Run all = x -> {
            Edge.rich(x);
            x.make(4, Due.NUMBER, 1);
            x.make(11, Due.WHOSE, 1);
            x.make(11, Due.WHICH, 1);
        };
        Bounded made = Edge.made(all);
        int leaves = 0;
        for (int k = 0; made.id(k) >= 0; k++) {
            int leaf = k;
            int kind = made.id(k);
            boolean master = kind == Due.HEAD || kind == Due.SEGMENT || kind == Due.TRACK || kind == Due.CLUSTER
                    || kind == Due.CUE;
            if (!master) {
                leaves++;
                for (int id : IDS) {
                    Edge.refused(String.format("make %X in %X", id, kind), all, x -> x.make(leaf, id, 0),
                            ElementFiles.MISPLACED);
                }
            }
        }
        Due.is("leaves of all kinds but FOREIGN", leaves, 11);
        for (int leaf : new int[] {3, 5, 6}) {
            for (int id : IDS) {
                Edge.refused(String.format("make %X in FOREIGN %d", id, leaf), Edge::rare, x -> x.make(leaf, id, 0),
                        ElementFiles.MISPLACED);
            }
        }
        Edge.taken("VOID in a CUE that was read", Edge::rare, x -> x.make(4, Due.VOID, 0), 6);
    }

    // Promise 8: "or it is CHECK and the master has children."
    private static void makeChecks() {
        Edge.refused("CHECK behind numbers", Edge::rich, x -> x.make(0, Due.CHECK, 0), ElementFiles.MISPLACED);
        Edge.refused("CHECK behind a CHECK", Edge::rich, x -> x.make(4, Due.CHECK, 0), ElementFiles.MISPLACED);
        Edge.refused("CHECK behind WHEN", Edge::rich, x -> x.make(10, Due.CHECK, 0), ElementFiles.MISPLACED);
        Edge.refused("CHECK behind FOREIGN", Edge::rare, x -> x.make(4, Due.CHECK, 0), ElementFiles.MISPLACED);
        for (int parent : new int[] {-1, 3, 7}) {
            Edge.refused("CHECK in " + parent, Edge::rich, x -> x.make(parent, Due.CHECK, 0), ElementFiles.MISPLACED);
        }
        Edge.Run masters = x -> {
            x.make(-1, Due.HEAD, 0);
            x.make(-1, Due.SEGMENT, 0);
            x.make(1, Due.TRACK, 0);
            x.make(1, Due.CUE, 0);
        };
        for (int parent : new int[] {0, 2, 3}) {
            Edge.taken("CHECK in an empty " + parent, masters, x -> x.make(parent, Due.CHECK, 9), parent + 1);
            Edge.refused("a second CHECK", x -> {
                masters.on(x);
                x.make(parent, Due.CHECK, 0);
            }, x -> x.make(parent, Due.CHECK, 0), ElementFiles.MISPLACED);
        }
        // The next master's children are not this one's.
        Edge.taken("CHECK before another HEAD's VERSION", x -> {
            x.make(-1, Due.HEAD, 0);
            x.make(-1, Due.HEAD, 0);
            x.make(1, Due.VERSION, 0);
        }, x -> x.make(0, Due.CHECK, 0), 1);
    }

    // Promise 8: "DATA when it is VOID and value is not 0 .. 64."
    private static void makeVoids() {
        for (int parent : new int[] {-1, 0, 3, 4, 7, 10}) {
            for (long value : new long[] {-1, 65, 66, 128, 256, 1L << 32, (1L << 32) + 1, Long.MIN_VALUE,
                Long.MAX_VALUE, -64, 1L << 63 | 5}) {
                Edge.refused("VOID of " + value, Edge::rich, x -> x.make(parent, Due.VOID, value), ElementFiles.DATA);
            }
        }
        for (int value = 0; value <= 64; value++) {
            long same = value;
            Edge.Run one = x -> x.make(-1, Due.VOID, same);
            Edge.taken("VOID of " + value, x -> { }, x -> x.make(-1, Due.VOID, same), 0);
            Edge.taken("its bytes", one, x -> x.value(0), value);
            Edge.taken("its length", one, x -> x.write(false), value + 2);
        }
    }

    // Promise 8: "with no children, the number value, no letters" (any value is taken where it counts for nothing).
    private static void makeNumbers() {
        for (long value : new long[] {0, 1, -1, 64, 65, 255, 256, 1L << 32, Long.MAX_VALUE, Long.MIN_VALUE}) {
            Bounded x = new Bounded();
            Due.is("HEAD", x.make(-1, Due.HEAD, value), 0);
            Due.is("CHECK", x.make(0, Due.CHECK, value), 1);
            Due.is("VERSION", x.make(0, Due.VERSION, value), 2);
            Due.is("TYPE", x.make(0, Due.TYPE, value), 3);
            Due.is("SEGMENT", x.make(-1, Due.SEGMENT, value), 4);
            Due.is("the tree with " + value, Edge.tree(x), "1A45DFA3@-1=3(1 2 3 ) BF@0=0() 4286@0=" + value
                    + "() 4282@0=0() 18538067@-1=0() ");
        }
    }

    // Promise 8: "ROOM when there are 60 elements."
    private static void makeTooMany() {
        for (int there = 58; there <= 60; there++) {
            int voids = there - 2;
            int all = there;
            Edge.Run before = x -> {
                x.make(-1, Due.SEGMENT, 0);
                x.make(0, Due.CLUSTER, 0);
                Edge.voids(x, voids);
            };
            int[][] calls = {{-1, Due.VOID, all}, {-1, Due.HEAD, all}, {0, Due.TRACK, 2}, {1, Due.TIME, 2}};
            for (int[] call : calls) {
                String what = String.format("make %X beside %d", call[1], there);
                if (there < 60) {
                    Edge.taken(what, before, x -> x.make(call[0], call[1], 5), call[2]);
                } else {
                    Edge.refused(what, before, x -> x.make(call[0], call[1], 5), ElementFiles.ROOM);
                }
            }
        }
        // The same when they were read.
        Edge.Run read = x -> {
            Due.feed(x, "EC80".repeat(60));
            x.read();
        };
        Edge.refused("make beside 60 that were read", read, x -> x.make(-1, Due.VOID, 0), ElementFiles.ROOM);
    }

    // "of several answers below 0 that fit, it is the one that is named first": NONE, MISPLACED, DATA, ROOM.
    private static void makeInOrderOfAnswers() {
        Edge.Run full = x -> {
            x.make(-1, Due.HEAD, 0);
            x.make(0, Due.VERSION, 0);
            Edge.voids(x, 58);
        };
        Edge.refused("NONE before all others", full, x -> x.make(60, Due.BLOCK, 65), ElementFiles.NONE);
        Edge.refused("NONE before DATA and ROOM", full, x -> x.make(60, Due.VOID, 65), ElementFiles.NONE);
        Edge.refused("NONE before ROOM", full, x -> x.make(-2, Due.VOID, 0), ElementFiles.NONE);
        Edge.refused("MISPLACED before DATA", Edge::rich, x -> x.make(1, Due.VOID, 65), ElementFiles.MISPLACED);
        Edge.refused("MISPLACED before DATA and ROOM", full, x -> x.make(2, Due.VOID, -1), ElementFiles.MISPLACED);
        Edge.refused("MISPLACED before ROOM", full, x -> x.make(0, Due.CHECK, 0), ElementFiles.MISPLACED);
        Edge.refused("MISPLACED before ROOM", full, x -> x.make(-1, 0x81, 0), ElementFiles.MISPLACED);
        Edge.refused("DATA before ROOM", full, x -> x.make(-1, Due.VOID, 65), ElementFiles.DATA);
        Edge.refused("ROOM at last", full, x -> x.make(-1, Due.VOID, 64), ElementFiles.ROOM);
    }

    // Promise 9: "NONE when .. the code is not 32 .. 126."
    private static void letterCodes() {
        for (int code : new int[] {0, 1, 10, 30, 31, 127, 128, 159, 160, 255, 256, 256 + 65, 32767, 32768, 65535}) {
            Edge.refused("letter with code " + code, Edge::rich, x -> x.letter(2, (char) code), ElementFiles.NONE);
        }
        for (int code = 32; code <= 126; code++) {
            char c = (char) code;
            Edge.taken("letter with code " + code, Edge::rich, x -> x.letter(2, c), 2);
            Edge.taken("and it is this one", x -> {
                Edge.rich(x);
                x.letter(2, c);
            }, x -> x.part(2, 1), code);
        }
    }

    // Promise 9: "NONE when there is no such element, it is no text."
    private static void letterElements() {
        for (int k : new int[] {-1, -2, 13, 14, 59, 60, 61, MIN, MAX, 0, 1, 3, 4, 5, 7, 8, 9, 10, 11, 12}) {
            Edge.refused("letter of " + k, Edge::rich, x -> x.letter(k, 'b'), ElementFiles.NONE);
        }
        for (int k = -1; k <= 7; k++) {
            int same = k;
            Edge.refused("letter of " + k, Edge::rare, x -> x.letter(same, 'b'), ElementFiles.NONE);
        }
        Edge.refused("letter of none", x -> { }, x -> x.letter(0, 'b'), ElementFiles.NONE);
        Edge.taken("letter of TYPE", Edge::rich, x -> x.letter(2, 'b'), 2);
        Edge.taken("letter of NAME", Edge::rich, x -> x.letter(6, 'b'), 3);
    }

    // Promise 9: "LONG when it has 16."
    private static void letterTooMany() {
        for (int there = 14; there <= 16; there++) {
            int letters = there;
            Edge.Run made = x -> {
                x.make(-1, Due.HEAD, 0);
                x.make(0, Due.TYPE, 0);
                x.make(0, Due.TYPE, 0);
                for (int i = 0; i < letters; i++) {
                    x.letter(1, (char) ('a' + i));
                }
            };
            Edge.Run read = x -> {
                Due.feed(x, Edge.element(Edge.HEAD, Edge.element("4282", "41".repeat(letters) + "00".repeat(3))));
                x.read();
            };
            if (there < 16) {
                Edge.taken("letter behind " + there, made, x -> x.letter(1, 'z'), there + 1);
                Edge.taken("letter behind " + there + " that were read", read, x -> x.letter(1, 'z'), there + 1);
            } else {
                Edge.refused("letter behind 16", made, x -> x.letter(1, 'z'), ElementFiles.LONG);
                Edge.refused("letter behind 16 that were read", read, x -> x.letter(1, 'z'), ElementFiles.LONG);
                Edge.refused("NONE before LONG", made, x -> x.letter(1, (char) 31), ElementFiles.NONE);
                Edge.taken("the other text", made, x -> x.letter(2, 'z'), 1);
            }
        }
    }
}
