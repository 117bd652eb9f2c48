/** The edges of promises 12 to 17: id, parent, value, part, sample, detail. None of them changes anything. */
public final class LookEdgeTest {
    private static final int MIN = Integer.MIN_VALUE;
    private static final int MAX = Integer.MAX_VALUE;
    private static final int[] NO_ELEMENTS = {-1, -2, 13, 14, 59, 60, 61, 255, 256, 65536, MIN, MIN + 1, MAX};

    public static void main(String[] args) {
        noElements();
        ids();
        parents();
        valuesOfAllKinds();
        valuesAtTheirMost();
        partsOfMasters();
        partsOfTexts();
        partsOfForeignOnes();
        partsOfBlocks();
        partsOfOthers();
        samples();
        samplesOfOthers();
        details();
        sixtieth();
        Due.finish();
    }

    // "NONE when there is none", ".. no such element", and -65536 "when k is no block".
    private static void noElements() {
        for (int k : NO_ELEMENTS) {
            Edge.looked("id(" + k + ")", Edge::rich, x -> x.id(k), ElementFiles.NONE);
            Edge.looked("parent(" + k + ")", Edge::rich, x -> x.parent(k), ElementFiles.NONE);
            Edge.looked("value(" + k + ")", Edge::rich, x -> x.value(k), ElementFiles.NONE);
            Edge.looked("part(" + k + ", 0)", Edge::rich, x -> x.part(k, 0), ElementFiles.NONE);
            Edge.looked("sample(" + k + ", 0, 0)", Edge::rich, x -> x.sample(k, 0, 0), ElementFiles.NONE);
            Edge.looked("detail(" + k + ", 0)", Edge::rich, x -> x.detail(k, 0), -65536);
        }
        for (int k : new int[] {-1, 0, 1, 60, MIN, MAX}) {
            Edge.looked("id(" + k + ") of none", x -> { }, x -> x.id(k), ElementFiles.NONE);
            Edge.looked("parent(" + k + ") of none", x -> { }, x -> x.parent(k), ElementFiles.NONE);
            Edge.looked("value(" + k + ") of none", x -> { }, x -> x.value(k), ElementFiles.NONE);
            Edge.looked("part(" + k + ", 0) of none", x -> { }, x -> x.part(k, 0), ElementFiles.NONE);
            Edge.looked("sample(" + k + ", 0, 0) of none", x -> { }, x -> x.sample(k, 0, 0), ElementFiles.NONE);
            Edge.looked("detail(" + k + ", 0) of none", x -> { }, x -> x.detail(k, 0), -65536);
        }
    }

    // Promise 12: "The ID of an element, as an int."
    private static void ids() {
        int[] due = {Due.HEAD, Due.VERSION, Due.TYPE, Due.SEGMENT, Due.TRACK, Due.CHECK, Due.NAME, Due.CLUSTER,
            Due.TIME, Due.BLOCK, Due.CUE, Due.WHEN, Due.VOID};
        for (int k = 0; k < due.length; k++) {
            int same = k;
            Edge.looked("id(" + k + ")", Edge::rich, x -> x.id(same), due[k]);
        }
        Edge.Run foreign = x -> {
            Due.feed(x, "80 80 FF 80 4000 80 3FFFFF 80 10000000 80 1FFFFFFF 80");
            x.read();
        };
        int[] odd = {0x80, 0xFF, 0x4000, 0x3FFFFF, 0x10000000, 0x1FFFFFFF, ElementFiles.NONE};
        for (int k = 0; k < odd.length; k++) {
            int same = k;
            Edge.looked("id(" + k + ")", foreign, x -> x.id(same), odd[k]);
        }
    }

    // Promise 13: "NONE when there is no such element, or it stands at the top."
    private static void parents() {
        int[] due = {-1, 0, 0, -1, 3, 4, 4, 3, 7, 7, 3, 10, -1};
        for (int k = 0; k < due.length; k++) {
            int same = k;
            Edge.looked("parent(" + k + ")", Edge::rich, x -> x.parent(same), due[k]);
        }
        int[] rare = {-1, 0, 1, 1, 0, 4, -1};
        for (int k = 0; k < rare.length; k++) {
            int same = k;
            Edge.looked("parent(" + k + ")", Edge::rare, x -> x.parent(same), rare[k]);
        }
        // A master's number moves when elements come before it.
        Edge.taken("parent of WHEN", x -> {
            Edge.rich(x);
            x.make(0, Due.VERSION, 1);
            x.make(8, Due.TIME, 1);
        }, x -> x.parent(13), 12);
    }

    // Promise 14: "Of a number its value, of a text how many letters, .. of a CHECK 0."
    private static void valuesOfAllKinds() {
        long[] due = {2, 7, 1, 3, 2, 0, 2, 2, 100, 1, 1, 96, 3};
        for (int k = 0; k < due.length; k++) {
            int same = k;
            Edge.looked("value(" + k + ")", Edge::rich, x -> x.value(same), due[k]);
        }
        long[] rare = {2, 2, 2, 0, 1, 3, 2};
        for (int k = 0; k < rare.length; k++) {
            int same = k;
            Edge.looked("value(" + k + ")", Edge::rare, x -> x.value(same), rare[k]);
        }
        // A CHECK's is 0 whatever its sum is.
        Bounded x = Edge.made(y -> Due.feed(y, Edge.element(Edge.HEAD, "BF84" + Due.sum("EC80") + "EC80")));
        x.read();
        Due.is("value of a CHECK that was read", x.value(1), 0);
    }

    private static void valuesAtTheirMost() {
        Bounded x = Edge.made(y -> {
            y.make(-1, Due.HEAD, 0);
            y.make(0, Due.VERSION, Long.MIN_VALUE);
            y.make(0, Due.VERSION, Long.MAX_VALUE);
            y.make(0, Due.VERSION, -1);
            y.make(-1, Due.VOID, 64);
        });
        Due.is("the least number", x.value(1), Long.MIN_VALUE);
        Due.is("the greatest number", x.value(2), Long.MAX_VALUE);
        Due.is("a number that looks like NONE", x.value(3), -1);
        Due.is("the greatest VOID that is made", x.value(4), 64);
        for (String id : new String[] {"EC", "81"}) {
            Bounded y = Edge.made(z -> Due.feed(z, id + "427D" + "00".repeat(637)));
            Due.is("read", y.read(), 1);
            Due.is("the greatest that is read", y.value(0), 637);
        }
        Bounded y = Edge.made(z -> {
            z.make(-1, Due.HEAD, 0);
            for (int i = 0; i < 59; i++) {
                z.make(0, Due.VOID, 0);
            }
        });
        Due.is("the most children", y.value(0), 59);
        Edge.taken("a master without children", z -> z.make(-1, Due.HEAD, 9), z -> z.value(0), 0);
    }

    private static void partIs(Edge.Run run, int k, int... due) {
        for (int i = 0; i < due.length; i++) {
            int same = i;
            Edge.looked("part(" + k + ", " + i + ")", run, x -> x.part(k, same), due[i]);
        }
        for (int i : new int[] {due.length, due.length + 1, -1, -2, 16, 60, 256, 65536, MIN, MIN + 1, MAX}) {
            if (i < 0 || i >= due.length) {
                Edge.looked("part(" + k + ", " + i + ")", run, x -> x.part(k, i), ElementFiles.NONE);
            }
        }
    }

    // Promise 15: "the number of child i of a master (each from 0); NONE when there is none."
    private static void partsOfMasters() {
        partIs(Edge::rich, 0, 1, 2);
        partIs(Edge::rich, 3, 4, 7, 10);
        partIs(Edge::rich, 4, 5, 6);
        partIs(Edge::rich, 7, 8, 9);
        partIs(Edge::rich, 10, 11);
        partIs(Edge::rare, 0, 1, 4);
        partIs(x -> x.make(-1, Due.HEAD, 0), 0);
        // Children of children, and the next master's, are not its own.
        Edge.Run two = x -> {
            x.make(-1, Due.SEGMENT, 0);
            x.make(-1, Due.SEGMENT, 0);
            x.make(1, Due.TRACK, 0);
        };
        partIs(two, 0);
        partIs(two, 1, 2);
    }

    // Promise 15: "Letter i of a text."
    private static void partsOfTexts() {
        partIs(Edge::rich, 2, 'a');
        partIs(Edge::rich, 6, 'x', 'y');
        Edge.Run sixteen = x -> {
            x.make(-1, Due.HEAD, 0);
            x.make(0, Due.TYPE, 0);
            for (int i = 0; i < 16; i++) {
                x.letter(1, (char) (i == 0 ? 32 : i == 15 ? 126 : 'A' + i));
            }
        };
        partIs(sixteen, 1, 32, 'B', 'C', 'D', 'E', 'F', 'G', 'H', 'I', 'J', 'K', 'L', 'M', 'N', 'O', 126);
        // The bytes 0 behind its letters are none of them.
        partIs(x -> {
            Due.feed(x, Edge.element(Edge.HEAD, "4282 84 41420000"));
            x.read();
        }, 1, 'A', 'B');
    }

    // Promise 15: "byte i of a FOREIGN element."
    private static void partsOfForeignOnes() {
        partIs(Edge::rare, 3);
        partIs(Edge::rare, 5, 14, 15, 16);
        partIs(Edge::rare, 6, 17, 18);
        Bounded x = Edge.made(y -> Due.feed(y, "81 427D" + "00".repeat(636) + "FF"));
        x.read();
        Due.is("byte 0 of 637", x.part(0, 0), 0);
        Due.is("byte 636 of 637", x.part(0, 636), 255);
        Due.is("byte 637 of 637", x.part(0, 637), ElementFiles.NONE);
    }

    // Promise 15: "the size of frame i of a block."
    private static void partsOfBlocks() {
        partIs(Edge::rich, 9, 2);
        partIs(Edge::rare, 2, 2, 2);
        partIs(x -> {
            x.make(-1, Due.SEGMENT, 0);
            x.make(0, Due.CLUSTER, 0);
            for (int i = 0; i < 8; i++) {
                x.frame(i == 3 ? 300 : 7 - i, 0);
            }
            x.block(1, 1, 0, true, 1);
        }, 2, 7, 6, 5, 300, 3, 2, 1, 0);
    }

    // Promise 15: "NONE when there is none": numbers, CHECKs and VOIDs have no parts.
    private static void partsOfOthers() {
        for (int k : new int[] {1, 5, 8, 11, 12}) {
            partIs(Edge::rich, k);
        }
    }

    // Promise 16: "Byte i of frame j of a block; NONE when there is none."
    private static void samples() {
        Edge.Run run = x -> {
            x.make(-1, Due.SEGMENT, 0);
            x.make(0, Due.CLUSTER, 0);
            x.frame(2, 10);
            x.frame(0, 0);
            x.frame(1, 255);
            x.block(1, 1, 0, true, 1);
            x.frame(300, 255);
            x.block(1, 1, 0, true, 0);
        };
        int[][] due = {{0, 0, 10}, {0, 1, 11}, {2, 0, 255}};
        for (int[] one : due) {
            Edge.looked("sample(2, " + one[0] + ", " + one[1] + ")", run, x -> x.sample(2, one[0], one[1]), one[2]);
        }
        int[][] none = {{0, 2}, {0, 3}, {0, -1}, {1, 0}, {1, 1}, {1, -1}, {2, 1}, {2, -1}, {3, 0}, {-1, 0}, {8, 0},
            {16, 0}, {MAX, 0}, {MIN, 0}, {0, MAX}, {0, MIN}, {MIN, MIN}, {MAX, MAX}, {-1, -1}, {-1, -2}};
        for (int[] one : none) {
            Edge.looked("sample(2, " + one[0] + ", " + one[1] + ")", run, x -> x.sample(2, one[0], one[1]),
                    ElementFiles.NONE);
        }
        Edge.taken("the first byte of 300", run, x -> x.sample(3, 0, 0), 255);
        Edge.taken("the last byte of 300", run, x -> x.sample(3, 0, 299), 42);
        Edge.taken("behind it", run, x -> x.sample(3, 0, 300), ElementFiles.NONE);
        Edge.taken("of a block that was read", Edge::rare, x -> x.sample(2, 0, 0), 10);
        Edge.taken("its last byte", Edge::rare, x -> x.sample(2, 1, 1), 13);
        Edge.taken("behind it", Edge::rare, x -> x.sample(2, 1, 2), ElementFiles.NONE);
    }

    private static void samplesOfOthers() {
        for (int k : new int[] {0, 1, 2, 3, 4, 5, 6, 7, 8, 10, 11, 12}) {
            Edge.looked("sample of " + k, Edge::rich, x -> x.sample(k, 0, 0), ElementFiles.NONE);
        }
        for (int k : new int[] {0, 1, 3, 4, 5, 6}) {
            Edge.looked("sample of " + k, Edge::rare, x -> x.sample(k, 0, 0), ElementFiles.NONE);
        }
    }

    // Promise 17: "-65536 when k is no block or for another what."
    private static void details() {
        int[] due = {3, -4, 1, 0};
        for (int what = 0; what < 4; what++) {
            int same = what;
            Edge.looked("detail(9, " + what + ")", Edge::rich, x -> x.detail(9, same), due[what]);
            for (int k : new int[] {0, 1, 2, 3, 4, 5, 6, 7, 8, 10, 11, 12}) {
                Edge.looked("detail(" + k + ", " + what + ")", Edge::rich, x -> x.detail(k, same), -65536);
            }
            for (int k : new int[] {0, 1, 3, 4, 5, 6}) {
                Edge.looked("detail(" + k + ", " + what + ")", Edge::rare, x -> x.detail(k, same), -65536);
            }
        }
        for (int what : new int[] {-1, -2, 4, 5, 256, 65536, MIN, MAX}) {
            Edge.looked("detail(9, " + what + ")", Edge::rich, x -> x.detail(9, what), -65536);
        }
        for (int time : new int[] {-32768, 32767, -1, 0}) {
            Bounded x = Due.withCluster();
            Due.addBlock(x, 1, 126, time, false);
            Due.is("time " + time, x.detail(2, 1), time);
            Due.is("no key block", x.detail(2, 2), 0);
            Due.is("the greatest track", x.detail(2, 0), 126);
        }
    }

    /** The last element that can be. */
    private static void sixtieth() {
        Bounded x = Edge.made(y -> {
            y.make(-1, Due.SEGMENT, 0);
            y.make(0, Due.CLUSTER, 0);
            for (int i = 2; i < 60; i++) {
                Due.addBlock(y, 1, 5, i, true);
            }
        });
        Due.is("id(59)", x.id(59), Due.BLOCK);
        Due.is("parent(59)", x.parent(59), 1);
        Due.is("value(59)", x.value(59), 1);
        Due.is("part(59, 0)", x.part(59, 0), 1);
        Due.is("sample(59, 0, 0)", x.sample(59, 0, 0), 7);
        Due.is("detail(59, 1)", x.detail(59, 1), 59);
        Due.is("part(1, 57)", x.part(1, 57), 59);
        Due.is("part(1, 58)", x.part(1, 58), ElementFiles.NONE);
        Due.is("id(60)", x.id(60), ElementFiles.NONE);
        Due.is("parent(60)", x.parent(60), ElementFiles.NONE);
        Due.is("value(60)", x.value(60), ElementFiles.NONE);
        Due.is("part(60, 0)", x.part(60, 0), ElementFiles.NONE);
        Due.is("sample(60, 0, 0)", x.sample(60, 0, 0), ElementFiles.NONE);
        Due.is("detail(60, 1)", x.detail(60, 1), -65536);
    }
}
