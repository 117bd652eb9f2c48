/** Promises 7 to 9 and 12 to 15: clear, make, letter, id, parent, value, part. */
public final class TreeTest {
    private static final int[] ALL = {Due.HEAD, Due.SEGMENT, Due.VERSION, Due.TYPE, Due.TRACK, Due.NUMBER,
        Due.NAME, Due.CLUSTER, Due.TIME, Due.BLOCK, Due.CUE, Due.WHEN, Due.WHOSE, Due.WHICH, Due.CHECK,
        Due.VOID, 0x81};

    public static void main(String[] args) {
        clearing();
        makingEverywhere();
        makingInOrder();
        makingWrongly();
        makingTooMany();
        checksFirst();
        letters();
        idsAndParents();
        values();
        parts();
        Due.finish();
    }

    private static void clearing() {
        Bounded x = Due.withCluster();
        x.write(false);
        x.feed(0xEC80, 2);
        x.frame(1, 1);
        x.clear();
        Due.is("clear: id(0)", x.id(0), ElementFiles.NONE);
        Due.is("clear: value(0)", x.value(0), ElementFiles.NONE);
        Due.is("clear: OUT stays", x.out(0), 0x18);
        Due.is("clear: write", x.write(false), 0);
        Due.is("clear: IN stays", x.read(), 1);
        x.clear();
        Due.is("clear: make", x.make(-1, Due.SEGMENT, 0), 0);
        Due.is("clear: make", x.make(0, Due.CLUSTER, 0), 1);
        Due.is("clear: frames stay", x.block(1, 1, 0, true, 0), 2);
    }

    /** Every ID in every master: exactly those of the document may stand there. */
    private static void makingEverywhere() {
        String[] may = {
            "-1: 1A45DFA3 18538067 EC",
            "0: 4286 4282 BF EC",
            "1: AE 1F43B675 BB EC",
            "2: D7 536E BF EC",
            "3: E7 EC",
            "4: B3 F7 F1 BF EC",
        };
        for (String line : may) {
            int parent = Integer.parseInt(line.substring(0, line.indexOf(':')));
            for (int id : ALL) {
                Bounded x = new Bounded();
                x.make(-1, Due.HEAD, 0);
                x.make(-1, Due.SEGMENT, 0);
                x.make(1, Due.TRACK, 0);
                x.make(1, Due.CLUSTER, 0);
                x.make(1, Due.CUE, 0);
                boolean fits = (line + " ").contains(String.format(" %X ", id));
                int made = x.make(parent, id, 1);
                Due.is(String.format("make %X in %d", id, parent), Math.min(made, 0),
                        fits ? 0 : ElementFiles.MISPLACED);
                Due.is(String.format("id of %X in %d", id, parent), fits ? x.id(made) : id, id);
            }
        }
    }

    private static void makingInOrder() {
        Bounded x = new Bounded();
        Due.is("SEGMENT", x.make(-1, Due.SEGMENT, 0), 0);
        Due.is("VOID behind", x.make(-1, Due.VOID, 1), 1);
        Due.is("HEAD behind", x.make(-1, Due.HEAD, 0), 2);
        Due.is("CLUSTER into 0", x.make(0, Due.CLUSTER, 0), 1);
        Due.is("TRACK into 0", x.make(0, Due.TRACK, 0), 2);
        Due.is("TIME into 1", x.make(1, Due.TIME, 9), 2);
        Due.is("NUMBER into 3", x.make(3, Due.NUMBER, 8), 4);
        Due.is("VERSION into 6", x.make(6, Due.VERSION, 7), 7);
        Due.is("TIME into 1", x.make(1, Due.TIME, 6), 3);
        Due.is("order", Due.shape(x), "18538067@-1 1F43B675@0 E7@1 E7@1 AE@0 D7@4 EC@-1 1A45DFA3@-1 4286@7");
        Due.is("numbers move with their elements", x.value(2), 9);
        Due.is("numbers move with their elements", x.value(3), 6);
        Due.is("numbers move with their elements", x.value(5), 8);
        Due.is("numbers move with their elements", x.value(8), 7);
    }

    private static void makingWrongly() {
        Bounded x = new Bounded();
        Due.is("parent 0 of none", x.make(0, Due.HEAD, 0), ElementFiles.NONE);
        Due.is("parent -2", x.make(-2, Due.HEAD, 0), ElementFiles.NONE);
        Due.is("parent MIN", x.make(Integer.MIN_VALUE, 0x81, 0), ElementFiles.NONE);
        Due.is("parent MAX", x.make(Integer.MAX_VALUE, Due.VOID, 99), ElementFiles.NONE);
        Due.is("id 0", x.make(-1, 0, 0), ElementFiles.MISPLACED);
        Due.is("id -1", x.make(-1, -1, 0), ElementFiles.MISPLACED);
        Due.is("id FOREIGN", x.make(-1, 0x4287, 0), ElementFiles.MISPLACED);
        Due.is("VOID of -1", x.make(-1, Due.VOID, -1), ElementFiles.DATA);
        Due.is("VOID of 65", x.make(-1, Due.VOID, 65), ElementFiles.DATA);
        Due.is("VOID of MIN", x.make(-1, Due.VOID, Long.MIN_VALUE), ElementFiles.DATA);
        Due.is("VOID of 2^32", x.make(-1, Due.VOID, 1L << 32), ElementFiles.DATA);
        Due.is("nothing was made", x.id(0), ElementFiles.NONE);
        Due.is("VOID of 0", x.make(-1, Due.VOID, 0), 0);
        Due.is("VOID of 64", x.make(-1, Due.VOID, 64), 1);
        Due.is("HEAD with a value", x.make(-1, Due.HEAD, 99), 2);
        Due.is("a master's value", x.value(2), 0);
        Due.is("VERSION in a VOID", x.make(0, Due.VERSION, 0), ElementFiles.MISPLACED);
        Due.is("VOID of 65 in a VOID", x.make(0, Due.VOID, 65), ElementFiles.MISPLACED);
        Due.is("VERSION", x.make(2, Due.VERSION, 5), 3);
        Due.is("VOID in a number", x.make(3, Due.VOID, 0), ElementFiles.MISPLACED);
        Due.is("TYPE with a value", x.make(2, Due.TYPE, 5), 4);
        Due.is("a new text has no letters", x.value(4), 0);
        Due.is("VOID in a text", x.make(4, Due.VOID, 0), ElementFiles.MISPLACED);
        Bounded y = Due.fed("8182 EC80");
        y.read();
        Due.is("VOID in a FOREIGN one", y.make(0, Due.VOID, 0), ElementFiles.MISPLACED);
    }

    private static void makingTooMany() {
        Bounded x = new Bounded();
        x.make(-1, Due.HEAD, 0);
        for (int i = 1; i < 60; i++) {
            Due.is("element " + i, x.make(0, Due.VERSION, i), i);
        }
        Due.is("the 61st", x.make(0, Due.VERSION, 0), ElementFiles.ROOM);
        Due.is("the 61st at the top", x.make(-1, Due.VOID, 0), ElementFiles.ROOM);
        Due.is("NONE before ROOM", x.make(60, Due.VERSION, 0), ElementFiles.NONE);
        Due.is("MISPLACED before ROOM", x.make(0, Due.TIME, 0), ElementFiles.MISPLACED);
        Due.is("DATA before ROOM", x.make(0, Due.VOID, 65), ElementFiles.DATA);
        Due.is("children", x.value(0), 59);
        Due.is("the last one", x.value(59), 59);
        Due.is("behind it", x.id(60), ElementFiles.NONE);
        x.clear();
        Due.is("room after clear", x.make(-1, Due.VOID, 0), 0);
    }

    private static void checksFirst() {
        Bounded x = new Bounded();
        x.make(-1, Due.HEAD, 0);
        Due.is("CHECK first", x.make(0, Due.CHECK, 77), 1);
        Due.is("its value", x.value(1), 0);
        Due.is("its part", x.part(1, 0), ElementFiles.NONE);
        Due.is("a second CHECK", x.make(0, Due.CHECK, 0), ElementFiles.MISPLACED);
        Due.is("VERSION behind", x.make(0, Due.VERSION, 0), 2);
        x.make(-1, Due.HEAD, 0);
        x.make(3, Due.VOID, 0);
        Due.is("CHECK behind a VOID", x.make(3, Due.CHECK, 0), ElementFiles.MISPLACED);
        Due.is("CHECK at the top", x.make(-1, Due.CHECK, 0), ElementFiles.MISPLACED);
    }

    private static void letters() {
        Bounded x = new Bounded();
        x.make(-1, Due.HEAD, 0);
        x.make(0, Due.TYPE, 0);
        x.make(0, Due.VERSION, 3);
        x.make(0, Due.TYPE, 0);
        Due.is("code 31", x.letter(1, (char) 31), ElementFiles.NONE);
        Due.is("code 127", x.letter(1, (char) 127), ElementFiles.NONE);
        Due.is("code 0", x.letter(1, (char) 0), ElementFiles.NONE);
        Due.is("code 65535", x.letter(1, (char) 65535), ElementFiles.NONE);
        Due.is("code 256 + 65", x.letter(1, (char) 321), ElementFiles.NONE);
        Due.is("no text", x.letter(2, 'a'), ElementFiles.NONE);
        Due.is("a master", x.letter(0, 'a'), ElementFiles.NONE);
        Due.is("none", x.letter(4, 'a'), ElementFiles.NONE);
        Due.is("-1", x.letter(-1, 'a'), ElementFiles.NONE);
        Due.is("the number stays", x.value(2), 3);
        Due.is("code 32", x.letter(1, ' '), 1);
        Due.is("code 126", x.letter(1, '~'), 2);
        for (int i = 3; i <= 16; i++) {
            Due.is("letter " + i, x.letter(1, (char) ('a' + i)), i);
        }
        Due.is("the 17th", x.letter(1, 'a'), ElementFiles.LONG);
        Due.is("NONE before LONG", x.letter(1, (char) 31), ElementFiles.NONE);
        Due.is("how many", x.value(1), 16);
        Due.is("letter 0", x.part(1, 0), ' ');
        Due.is("letter 1", x.part(1, 1), '~');
        Due.is("letter 15", x.part(1, 15), 'a' + 16);
        Due.is("letter 16", x.part(1, 16), ElementFiles.NONE);
        Due.is("the other text", x.value(3), 0);
        Due.is("the other text", x.letter(3, 'z'), 1);
        Due.is("the other text", x.part(3, 0), 'z');
        x.clear();
        x.make(-1, Due.SEGMENT, 0);
        x.make(0, Due.TRACK, 0);
        x.make(1, Due.NAME, 0);
        Due.is("NAME is a text", x.letter(2, 'q'), 1);
        Due.is("with its own letters", x.part(2, 1), ElementFiles.NONE);
        Bounded y = Due.fed("1A45DFA3 86 4282 83 614200");
        y.read();
        Due.is("a text that was read", y.letter(1, 'c'), 3);
        Due.is("its letters", y.part(1, 1), 'B');
        Due.is("its letters", y.part(1, 2), 'c');
    }

    private static void idsAndParents() {
        Bounded x = Due.withCluster();
        Due.is("id(0)", x.id(0), Due.SEGMENT);
        Due.is("id(1)", x.id(1), Due.CLUSTER);
        Due.is("id(2)", x.id(2), ElementFiles.NONE);
        Due.is("id(-1)", x.id(-1), ElementFiles.NONE);
        Due.is("id(60)", x.id(60), ElementFiles.NONE);
        Due.is("id(MIN)", x.id(Integer.MIN_VALUE), ElementFiles.NONE);
        Due.is("id(MAX)", x.id(Integer.MAX_VALUE), ElementFiles.NONE);
        Due.is("parent(0)", x.parent(0), ElementFiles.NONE);
        Due.is("parent(1)", x.parent(1), 0);
        Due.is("parent(2)", x.parent(2), ElementFiles.NONE);
        Due.is("parent(-1)", x.parent(-1), ElementFiles.NONE);
        x.make(-1, Due.SEGMENT, 0);
        x.make(2, Due.TRACK, 0);
        x.make(0, Due.VOID, 0);
        Due.is("parent follows its element", x.parent(4), 3);
    }

    private static void values() {
        Bounded x = Due.fed("18538067 FF AE80 1F43B675 FF E788 FFFFFFFFFFFFFFFE EC83 010203 8184 0A0B0C0D A38A 8100 0002 02 00 00 AABBCC");
        Due.is("read", x.read(), 7);
        Due.is("SEGMENT", x.value(0), 2);
        Due.is("TRACK", x.value(1), 0);
        Due.is("CLUSTER", x.value(2), 4);
        Due.is("TIME", x.value(3), -2);
        Due.is("VOID", x.value(4), 3);
        Due.is("FOREIGN", x.value(5), 4);
        Due.is("BLOCK", x.value(6), 3);
        Due.is("value(7)", x.value(7), ElementFiles.NONE);
        Due.is("value(-1)", x.value(-1), ElementFiles.NONE);
        Due.is("value(MAX)", x.value(Integer.MAX_VALUE), ElementFiles.NONE);
        Bounded y = Due.fed("1A45DFA3 86 BF84 00000000");
        y.read();
        Due.is("CHECK", y.value(1), 0);
        for (long number : new long[] {0, -1, Long.MIN_VALUE, Long.MAX_VALUE, 1L << 40}) {
            Due.is("made number", y.value(y.make(0, Due.VERSION, number)), number);
        }
    }

    private static void parts() {
        Bounded x = Due.fed("18538067 FF AE80 1F43B675 FF E788 FFFFFFFFFFFFFFFE EC83 010203 8184 0A0BFF0D A38A 8100 0002 02 00 01 AABBCC");
        Due.is("read", x.read(), 7);
        Due.is("child 0", x.part(0, 0), 1);
        Due.is("child 1", x.part(0, 1), 2);
        Due.is("child 2", x.part(0, 2), ElementFiles.NONE);
        Due.is("child -1", x.part(0, -1), ElementFiles.NONE);
        Due.is("child of none", x.part(1, 0), ElementFiles.NONE);
        Due.is("child 3 of CLUSTER", x.part(2, 3), 6);
        Due.is("child 4 of CLUSTER", x.part(2, 4), ElementFiles.NONE);
        Due.is("part of a number", x.part(3, 0), ElementFiles.NONE);
        Due.is("part of a VOID", x.part(4, 0), ElementFiles.NONE);
        Due.is("byte 0 of FOREIGN", x.part(5, 0), 10);
        Due.is("byte 2 of FOREIGN", x.part(5, 2), 255);
        Due.is("byte 3 of FOREIGN", x.part(5, 3), 13);
        Due.is("byte 4 of FOREIGN", x.part(5, 4), ElementFiles.NONE);
        Due.is("byte -1 of FOREIGN", x.part(5, -1), ElementFiles.NONE);
        Due.is("byte MAX of FOREIGN", x.part(5, Integer.MAX_VALUE), ElementFiles.NONE);
        Due.is("byte MIN of FOREIGN", x.part(5, Integer.MIN_VALUE), ElementFiles.NONE);
        Due.is("frame 0", x.part(6, 0), 0);
        Due.is("frame 1", x.part(6, 1), 1);
        Due.is("frame 2", x.part(6, 2), 2);
        Due.is("frame 3", x.part(6, 3), ElementFiles.NONE);
        Due.is("frame -1", x.part(6, -1), ElementFiles.NONE);
        Due.is("part of none", x.part(7, 0), ElementFiles.NONE);
        Due.is("part of -1", x.part(-1, 0), ElementFiles.NONE);
        x.make(1, Due.NUMBER, 0);
        Due.is("child 1 has moved", x.part(0, 1), 3);
    }
}
