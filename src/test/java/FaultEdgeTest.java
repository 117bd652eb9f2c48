/** Promises 5 and 6, and 'READING' in 'Terms': each fault at its edge, the order of faults, and where they are. */
public final class FaultEdgeTest {
    private static final String HEAD = Edge.HEAD;
    private static final String SEGMENT = Edge.SEGMENT;
    private static final String CLUSTER = Edge.CLUSTER;
    private static final String SIXTY = "EC80".repeat(60);
    private static final String NINE = "000000000000000000";

    public static void main(String[] args) {
        nothing();
        cutIds();
        cutSizes();
        zeroSizes();
        openSizes();
        cutData();
        sixtyElements();
        orderOfFaults();
        faultsWithoutRoom();
        firstOfSeveral();
        endsOfMasters();
        endsByIds();
        endsOfUnknownSizes();
        places();
        whereStays();
        whatStays();
        fullIn();
        Due.finish();
    }

    // "Reads IN: .. the answer is how many elements it has." (None, when IN is empty.)
    private static void nothing() {
        Edge.good("", "");
        Bounded x = new Bounded();
        Due.is("read() of a new object", x.read(), 0);
        Due.is("where() then", x.where(), ElementFiles.NONE);
    }

    // "CUT its ID is not complete before those end."
    private static void cutIds() {
        Edge.good("10000000 80", "10000000@-1");
        Edge.fault("100000", ElementFiles.CUT, 0);
        Edge.fault("EC80 10", ElementFiles.CUT, 2);
        // In masters of known size, the byte behind their data is not the ID's.
        Edge.good(HEAD + "83 4286 80", "1A45DFA3@-1 4286@0");
        Edge.fault(HEAD + "81 4286 80", ElementFiles.CUT, 5);
        Edge.fault(SEGMENT + "83 AE81 536E 80", ElementFiles.CUT, 7);
    }

    // "CUT no byte of its size is there." "CUT its size is not complete."
    private static void cutSizes() {
        Edge.fault("EC", ElementFiles.CUT, 0);
        Edge.fault("EC80 EC", ElementFiles.CUT, 2);
        Edge.fault(HEAD, ElementFiles.CUT, 0);
        Edge.fault(HEAD + "81 EC 80", ElementFiles.CUT, 5);
        Edge.good(HEAD + "82 EC 80", "1A45DFA3@-1 EC@0");
        Edge.fault(HEAD + "82 EC 40 00", ElementFiles.CUT, 5);
        Edge.good(HEAD + "83 EC 40 00", "1A45DFA3@-1 EC@0");
        for (int length = 2; length <= 8; length++) {
            String size = Edge.vint(0, length);
            for (int there = 1; there < length; there++) {
                Edge.fault("EC" + size.substring(0, 2 * there), ElementFiles.CUT, 0);
            }
            Edge.good("EC" + size, "EC@-1");
        }
    }

    // "FORM that byte is 0."
    private static void zeroSizes() {
        Edge.fault("EC 00", ElementFiles.FORM, 0);
        Edge.fault("EC 0080", ElementFiles.FORM, 0);
        Edge.fault(HEAD + "82 EC 00", ElementFiles.FORM, 5);
        Edge.good("EC 0100000000000000", "EC@-1");
    }

    // "OPEN the size is unknown, and it is neither SEGMENT nor CLUSTER."
    private static void openSizes() {
        Edge.good(SEGMENT + "FF", "18538067@-1");
        Edge.good(SEGMENT + "85" + CLUSTER + "FF", "18538067@-1 1F43B675@0");
        Edge.good(SEGMENT + "FF" + CLUSTER + "FF", "18538067@-1 1F43B675@0");
        Edge.fault(HEAD + "FF", ElementFiles.OPEN, 0);
        Edge.fault("EC FF", ElementFiles.OPEN, 0);
        Edge.fault("81 FF", ElementFiles.OPEN, 0);
        for (String id : new String[] {"4286", "4282", "BF", "EC", "81"}) {
            Edge.fault(Edge.element(HEAD, id + "FF"), ElementFiles.OPEN, 5);
        }
        for (String id : new String[] {"AE", "BB", "EC", "81"}) {
            Edge.fault(SEGMENT + "FF" + id + "FF", ElementFiles.OPEN, 5);
        }
        for (String id : new String[] {"E7", "A3", "EC", "81"}) {
            Edge.fault(SEGMENT + "FF" + CLUSTER + "FF" + id + "FF", ElementFiles.OPEN, 10);
        }
        for (String id : new String[] {"D7", "536E", "BF"}) {
            Edge.fault(Edge.element(SEGMENT, Edge.element("AE", id + "FF")), ElementFiles.OPEN, 7);
        }
        for (String id : new String[] {"B3", "F7", "F1", "BF"}) {
            Edge.fault(Edge.element(SEGMENT, Edge.element("BB", id + "FF")), ElementFiles.OPEN, 7);
        }
    }

    // "CUT its data would go beyond the end."
    private static void cutData() {
        Edge.good("EC 82 0000", "EC@-1");
        Edge.fault("EC 83 0000", ElementFiles.CUT, 0);
        Edge.good(HEAD + "84 EC 82 0000", "1A45DFA3@-1 EC@0");
        Edge.fault(HEAD + "84 EC 83 0000 00", ElementFiles.CUT, 5);
        Edge.fault(HEAD + "85 EC 82 0000", ElementFiles.CUT, 0);
        // A master's too, before any of its children.
        Edge.good(SEGMENT + "84 AE82 EC80", "18538067@-1 AE@0 EC@1");
        Edge.fault(SEGMENT + "84 AE83 EC80 00", ElementFiles.CUT, 5);
        // With a size that does not fit an int.
        Edge.fault("EC 01000001 00000000", ElementFiles.CUT, 0);
        Edge.fault("EC 0100000100000001 00", ElementFiles.CUT, 0);
        Edge.fault("EC 0100000080000000", ElementFiles.CUT, 0);
        Edge.fault("EC 010000007FFFFFFF", ElementFiles.CUT, 0);
        Edge.fault("EC 01FFFFFFFFFFFFFE", ElementFiles.CUT, 0);
    }

    // "ROOM there are 60 elements."
    private static void sixtyElements() {
        Edge.good("EC80".repeat(59), "EC@-1 ".repeat(59).trim());
        Edge.good(SIXTY, "EC@-1 ".repeat(60).trim());
        Edge.fault(SIXTY + "EC80", ElementFiles.ROOM, 120);
        Edge.fault(SIXTY + HEAD + "80", ElementFiles.ROOM, 120);
        // Masters count, and their children, wherever they stand.
        String inHead = "EC80".repeat(59);
        Edge.good(Edge.element(HEAD, inHead), "1A45DFA3@-1 " + "EC@0 ".repeat(59).trim());
        Edge.fault(Edge.element(HEAD, inHead + "EC80"), ElementFiles.ROOM, 5 + 118);
        Edge.fault(Edge.element(HEAD, inHead) + "EC80", ElementFiles.ROOM, 5 + 118);
        Edge.good(SEGMENT + "FF" + "AE80".repeat(59), "18538067@-1 " + "AE@0 ".repeat(59).trim());
        Edge.fault(SEGMENT + "FF" + "AE80".repeat(60), ElementFiles.ROOM, 5 + 118);
        // Its first child would be the 61st.
        Edge.good("EC80".repeat(59) + HEAD + "80", "EC@-1 ".repeat(59) + "1A45DFA3@-1");
        Edge.fault("EC80".repeat(59) + HEAD + "82 EC80", ElementFiles.ROOM, 123);
    }

    // "of several answers below 0 that fit, it is the one that is named first."
    private static void orderOfFaults() {
        // The ID's first byte is below 16, and it would not be complete.
        Edge.fault("0F", ElementFiles.FORM, 0);
        // The ID is not complete, and whatever it were, it might not stand there.
        Edge.fault("53", ElementFiles.CUT, 0);
        Edge.fault(Edge.element(HEAD, "18 53 80"), ElementFiles.CUT, 5);
        // It may not stand there, and ..
        Edge.fault("4286", ElementFiles.MISPLACED, 0);
        Edge.fault("4286 00", ElementFiles.MISPLACED, 0);
        Edge.fault("4286 40", ElementFiles.MISPLACED, 0);
        Edge.fault("4286 FF", ElementFiles.MISPLACED, 0);
        Edge.fault("4286 85", ElementFiles.MISPLACED, 0);
        Edge.fault("4286 89" + NINE, ElementFiles.MISPLACED, 0);
        Edge.fault("BF80", ElementFiles.MISPLACED, 0);
        Edge.fault(Edge.element(HEAD, "EC80 BF81 00"), ElementFiles.MISPLACED, 7);
        // No byte of its size is there; the one behind is 0, or one of an unknown size.
        Edge.fault(HEAD + "82 4286 00", ElementFiles.CUT, 5);
        Edge.fault(HEAD + "82 4286 FF", ElementFiles.CUT, 5);
        // That byte is 0, and there are too few bytes for any size.
        Edge.fault("EC 00", ElementFiles.FORM, 0);
        // Its size is not complete, and would be unknown.
        Edge.fault("EC 7F", ElementFiles.CUT, 0);
        Edge.fault(HEAD + "82 EC 7F FF", ElementFiles.CUT, 5);
        // The size is unknown; as a number it would go beyond the end, or be too much for its kind.
        Edge.fault("EC FF", ElementFiles.OPEN, 0);
        Edge.fault("EC FF" + "00".repeat(126), ElementFiles.OPEN, 0);
        Edge.fault(Edge.element(HEAD, "4286 FF" + "00".repeat(127)), ElementFiles.OPEN, 6);
        // Its data go beyond the end, and are too many for its kind, or not of it.
        Edge.fault(Edge.element(HEAD, "4286 89"), ElementFiles.CUT, 5);
        Edge.fault(Edge.element(HEAD, "4282 83 0101"), ElementFiles.CUT, 5);
        Edge.fault(Edge.element(HEAD, "BF 83 0000"), ElementFiles.CUT, 5);
        Edge.fault(SEGMENT + "FF" + CLUSTER + "FF A382 00", ElementFiles.CUT, 10);
    }

    // The same where there are 60 elements, which is named before DATA and behind all others.
    private static void faultsWithoutRoom() {
        Edge.fault(SIXTY + "0F", ElementFiles.FORM, 120);
        Edge.fault(SIXTY + "42", ElementFiles.CUT, 120);
        Edge.fault(SIXTY + "428680", ElementFiles.MISPLACED, 120);
        Edge.fault(SIXTY + "EC", ElementFiles.CUT, 120);
        Edge.fault(SIXTY + "EC00", ElementFiles.FORM, 120);
        Edge.fault(SIXTY + "EC40", ElementFiles.CUT, 120);
        Edge.fault(SIXTY + "ECFF", ElementFiles.OPEN, 120);
        Edge.fault(SIXTY + "EC81", ElementFiles.CUT, 120);
        Edge.fault(SIXTY + "EC80", ElementFiles.ROOM, 120);
        Edge.fault(SIXTY + SEGMENT + "FF", ElementFiles.ROOM, 120);
        String head = "EC80".repeat(59) + HEAD;
        Edge.fault(head + "8C 4286 89" + NINE, ElementFiles.ROOM, 123);
        Edge.fault(head + "84 4282 81 01", ElementFiles.ROOM, 123);
        Edge.fault(head + "82 BF80", ElementFiles.ROOM, 123);
        String cluster = "EC80".repeat(58) + SEGMENT + "FF" + CLUSTER + "FF";
        Edge.fault(cluster + "A380", ElementFiles.ROOM, 126);
        // One element less, and it is the data's fault.
        Edge.fault("EC80".repeat(58) + HEAD + "8C 4286 89" + NINE, ElementFiles.DATA, 121);
    }

    // "or it has none, and the answer is the first fault that is met."
    private static void firstOfSeveral() {
        Edge.fault("ECFF 0F", ElementFiles.OPEN, 0);
        Edge.fault("EC80 428680 0F", ElementFiles.MISPLACED, 2);
        Edge.fault(Edge.element(HEAD, "4286 89" + NINE + "0F"), ElementFiles.DATA, 5);
        // The CHECK, whose sum is wrong, stands before the fault behind it.
        Edge.fault(Edge.element(HEAD, "BF84 00000000 0F"), ElementFiles.DATA, 5);
        Edge.fault(Edge.element(HEAD, "BF84" + Due.sum("0F") + "0F"), ElementFiles.FORM, 11);
        // A fault of the master is met before those of its children.
        Edge.fault(HEAD + "83 0F", ElementFiles.CUT, 0);
        Edge.fault(HEAD + "FF 0F", ElementFiles.OPEN, 0);
        // What stands behind the fault does not matter, nor what stands in FOREIGN data and VOIDs.
        Edge.fault("0F" + SIXTY, ElementFiles.FORM, 0);
        Edge.good("8181 0F EC82 0F00", "81@-1 EC@-1");
    }

    // "Masters end where their size says."
    private static void endsOfMasters() {
        Edge.good(HEAD + "80 EC80", "1A45DFA3@-1 EC@-1");
        Edge.good(HEAD + "82 EC80 EC80", "1A45DFA3@-1 EC@0 EC@-1");
        Edge.good(HEAD + "84 EC80 EC80", "1A45DFA3@-1 EC@0 EC@0");
        // Three that end at the same place.
        Edge.good(SEGMENT + "84 AE82 EC80 EC80", "18538067@-1 AE@0 EC@1 EC@-1");
        // They do not end by an ID that may not stand in them.
        Edge.fault(HEAD + "85" + HEAD + "80", ElementFiles.MISPLACED, 5);
        Edge.fault(SEGMENT + "85" + SEGMENT + "FF", ElementFiles.MISPLACED, 5);
        Edge.fault(SEGMENT + "8A" + CLUSTER + "85" + CLUSTER + "80", ElementFiles.MISPLACED, 10);
        Edge.fault(SEGMENT + "FF" + CLUSTER + "85" + CLUSTER + "80", ElementFiles.MISPLACED, 10);
    }

    // "if the master is of unknown size, and an element with this ID may not stand in it, it ends here,
    // and the same goes for its own master."
    private static void endsByIds() {
        String open = SEGMENT + "FF" + CLUSTER + "FF";
        String shape = "18538067@-1 1F43B675@0 ";
        for (String id : new String[] {"AE", "1F43B675", "BB"}) {
            Edge.good(open + id + "80 EC80", shape + id + "@0 EC@0");
        }
        for (String id : new String[] {"1A45DFA3", "18538067"}) {
            Edge.good(open + id + "80 EC80", shape + id + "@-1 EC@-1");
            Edge.good(SEGMENT + "FF" + id + "80 EC80", "18538067@-1 " + id + "@-1 EC@-1");
        }
        // What may stand there ends nothing.
        Edge.good(open + "E780 A38481000000 EC80 8180", shape + "E7@1 A3@1 EC@1 81@1");
        // Both end, and it may not stand at the top either.
        for (String id : new String[] {"4286", "4282", "D7", "536E", "B3", "F7", "F1", "BF"}) {
            Edge.fault(open + id + "80", ElementFiles.MISPLACED, 10);
            Edge.fault(SEGMENT + "FF" + id + "80", ElementFiles.MISPLACED, 5);
        }
        Edge.fault(SEGMENT + "FF E780", ElementFiles.MISPLACED, 5);
        Edge.fault(SEGMENT + "FF A38481000000", ElementFiles.MISPLACED, 5);
        // The CLUSTER ends; the SEGMENT, whose size is known, does not.
        Edge.fault(SEGMENT + "8A" + CLUSTER + "FF" + HEAD + "80", ElementFiles.MISPLACED, 10);
        Edge.good(SEGMENT + "87" + CLUSTER + "FF AE80" + HEAD + "80", shape + "AE@0 1A45DFA3@-1");
        // It has ended, and so its elements may not stand there any more.
        Edge.fault(open + "AE80 E780", ElementFiles.MISPLACED, 12);
        // Only an ID that is complete ends a master.
        Edge.fault(open + "1A45DF", ElementFiles.CUT, 10);
    }

    // "those of unknown size also where their own master's data end."
    private static void endsOfUnknownSizes() {
        String shape = "18538067@-1 1F43B675@0 ";
        Edge.good(SEGMENT + "85" + CLUSTER + "FF EC80", shape + "EC@-1");
        Edge.good(SEGMENT + "87" + CLUSTER + "FF EC80 EC80", shape + "EC@1 EC@-1");
        Edge.good(SEGMENT + "FF" + CLUSTER + "FF EC80 EC80", shape + "EC@1 EC@1");
        Edge.good(SEGMENT + "FF" + CLUSTER + "82 EC80 EC80", shape + "EC@1 EC@0");
        // The elements in it are cut where those data end.
        Edge.good(SEGMENT + "88" + CLUSTER + "FF E78100", shape + "E7@1");
        Edge.fault(SEGMENT + "87" + CLUSTER + "FF E78100", ElementFiles.CUT, 10);
        Edge.fault(SEGMENT + "86" + CLUSTER + "FF E78100", ElementFiles.CUT, 10);
        Edge.fault(SEGMENT + "86" + CLUSTER + "FF 1A45DFA3 80", ElementFiles.CUT, 10);
        Edge.fault(SEGMENT + "89" + CLUSTER + "FF 1A45DFA3 80", ElementFiles.MISPLACED, 10);
        // At the top, they go to the end of IN.
        Edge.good(SEGMENT + "FF EC 4278" + "00".repeat(632), "18538067@-1 EC@0");
        Edge.fault(SEGMENT + "FF EC 4279" + "00".repeat(632), ElementFiles.CUT, 5);
    }

    // "WHERE a fault is met is the place in IN where the element begins in which it is met."
    private static void places() {
        Edge.fault("0F", ElementFiles.FORM, 0);
        Edge.fault(SEGMENT + "FF AE83 D78F", ElementFiles.CUT, 5);
        Edge.fault(SEGMENT + "FF AE82 D78F", ElementFiles.CUT, 7);
        String before = "EC 427C" + "00".repeat(636);
        Edge.fault(before + "0F", ElementFiles.FORM, 639);
        Edge.fault(before + "EC", ElementFiles.CUT, 639);
        Edge.fault("EC 4279" + "00".repeat(633) + "EC 01 0000", ElementFiles.CUT, 636);
    }

    // "NONE when it met none, or there was no read()."
    private static void whereStays() {
        Bounded x = new Bounded();
        Due.is("where() without a read()", x.where(), ElementFiles.NONE);
        x.feed(0xEC800FL, 3);
        x.make(-1, Due.VOID, 0);
        Due.is("where() without a read()", x.where(), ElementFiles.NONE);
        x.read();
        Due.is("where() of a fault", x.where(), 2);
        Edge.looked("where()", y -> {
            y.feed(0xEC800FL, 3);
            y.read();
        }, Bounded::where, 2);
        // Only a read() changes it.
        x.feed(1, 1);
        x.make(-1, Due.VOID, 0);
        x.write(false);
        x.take(true);
        x.clear();
        Due.is("where() then", x.where(), 2);
        Due.is("a read() without a fault", x.read(), 1);
        Due.is("where() then", x.where(), ElementFiles.NONE);
        x.feed(0x0F, 1);
        x.read();
        Due.is("where() of another fault", x.where(), 2);
        x.take(false);
        x.read();
        Due.is("where() of an empty IN", x.where(), ElementFiles.NONE);
    }

    // "(IN, OUT and the frames at hand stay.)"
    private static void whatStays() {
        Edge.Run before = x -> {
            x.make(-1, Due.HEAD, 0);
            x.make(0, Due.VERSION, 5);
            x.write(false);
            x.frame(3, 9);
            x.frame(0, 0);
            Due.feed(x, "EC81 00 8182 0102");
        };
        Edge.Run after = x -> {
            before.on(x);
            x.read();
        };
        Due.is("the tree that was read", Edge.tree(Edge.made(after)), "EC@-1=1() 81@-1=2(1 2 ) ");
        Due.is("OUT", Due.out(Edge.made(after)), Due.out(Edge.made(before)));
        Due.is("the frames at hand", Edge.atHand(Edge.made(after)), Edge.atHand(Edge.made(before)));
        Due.is("IN", Edge.in(Edge.made(after)), Edge.in(Edge.made(before)));
        Bounded x = Edge.made(after);
        Due.is("IN goes on", x.feed(0xEC80, 2), 9);
        Due.is("read() of more", x.read(), 3);
        // After a fault, the tree is empty and can be made anew.
        Bounded y = Edge.made(before);
        y.feed(0x0F, 1);
        Due.is("read() with a fault", y.read(), ElementFiles.FORM);
        Due.is("the first element", y.id(0), ElementFiles.NONE);
        Due.is("write() of none", y.write(false), 0);
        Due.is("a new first element", y.make(-1, Due.VOID, 1), 0);
        Due.is("no child of what was there", y.make(1, Due.VOID, 1), ElementFiles.NONE);
    }

    /** IN with all its 640 bytes. */
    private static void fullIn() {
        Bounded x = Edge.made(y -> Due.feed(y, "81 427D" + "5E".repeat(637)));
        Due.is("it is full", x.feed(0, 1), ElementFiles.LONG);
        Due.is("read() of 640 bytes", x.read(), 1);
        Due.is("its last byte", x.part(0, 636), 0x5E);
        Due.is("behind it", x.part(0, 637), ElementFiles.NONE);
        Edge.fault("81 427E" + "5E".repeat(637), ElementFiles.CUT, 0);
    }
}
