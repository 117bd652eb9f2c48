/**
 * Reads files of nested elements with frames of sound and picture, keeps them as trees, changes
 * and writes them again, with an index by which blocks are found.
 */
public final class ElementFiles {
    public static final int NONE = -1;
    public static final int CUT = -2;
    public static final int FORM = -3;
    public static final int MISPLACED = -4;
    public static final int OPEN = -5;
    public static final int ROOM = -6;
    public static final int DATA = -7;
    public static final int LONG = -8;

    private static final int MOST_BYTES = 640;
    private static final int MOST_ELEMENTS = 60;
    private static final int MOST_STORED = 1200;
    private static final int MOST_LETTERS = 16;
    private static final int MOST_VOID = 64;
    private static final int MOST_FRAMES = 8;
    private static final int MOST_IN_A_FRAME = 300;
    private static final int MOST_AT_HAND = 400;
    private static final int MOST_TRACK = 126;
    private static final int CHECK_SIZE = 4;
    private static final int ELEMENTS_OF_A_CUE = 4;
    private static final int NO_DETAIL = -65536;
    private static final int SUM_BITS = 0xEDB88320;

    // Where an element may stand: a bit for the top and one for each master.
    private static final int AT_TOP = 1;
    private static final int IN_HEAD = 2;
    private static final int IN_SEGMENT = 4;
    private static final int IN_TRACK = 8;
    private static final int IN_CLUSTER = 16;
    private static final int IN_CUE = 32;
    private static final int ANYWHERE = 63;

    // What an element's data are.
    private static final int IS_MASTER = 0;
    private static final int IS_NUMBER = 1;
    private static final int IS_TEXT = 2;
    private static final int IS_BLOCK = 3;
    private static final int IS_CHECK = 4;
    private static final int IS_VOID = 5;
    private static final int IS_FOREIGN = 6;

    private final Row fed = new Row(MOST_BYTES);
    private final Row written = new Row(MOST_BYTES);
    private final Frames atHand = new Frames();
    private final Tree tree = new Tree();
    private final Reader reader = new Reader(fed, tree);
    private final Writer writer = new Writer(tree, written);
    private final Finder finder = new Finder(tree);

    public ElementFiles() {
    }

    public int feed(long bytes, int n) {
        if (n < 1 || n > 8) {
            return NONE;
        }
        if (fed.count + n > MOST_BYTES) {
            return LONG;
        }
        fed.putNumber(bytes, n);
        return fed.count;
    }

    public int take(boolean all) {
        fed.count = 0;
        if (all) {
            for (int i = 0; i < written.count; i++) {
                fed.put(written.at(i));
            }
        }
        return fed.count;
    }

    public int out(int i) {
        return written.at(i);
    }

    public int read() {
        return reader.readTree();
    }

    public int where() {
        return reader.faultPlace;
    }

    public void clear() {
        tree.empty();
    }

    public int make(int parent, int id, long value) {
        Element master = tree.at(parent);
        if (master == null && parent != -1) {
            return NONE;
        }
        Sort sort = Sort.of(id);
        if (sort == Sort.BLOCK || sort == Sort.FOREIGN || !tree.mayStand(sort, master)) {
            return MISPLACED;
        }
        if (sort == Sort.VOID && (value < 0 || value > MOST_VOID)) {
            return DATA;
        }
        Element made = tree.add(master, sort, id);
        if (made == null) {
            return ROOM;
        }
        if (sort == Sort.VOID || sort.form == IS_NUMBER) {
            made.amount = value;
        }
        return made.number;
    }

    public int letter(int k, char c) {
        Element text = tree.at(k);
        if (text == null || text.sort.form != IS_TEXT || !isLetter(c)) {
            return NONE;
        }
        return text.addPart(c) ? (int) text.amount : LONG;
    }

    public int frame(int n, int first) {
        if (n < 0 || n > MOST_IN_A_FRAME || first < 0 || first > 255) {
            return NONE;
        }
        return atHand.add(n, first) ? atHand.count : ROOM;
    }

    public int block(int parent, int track, int time, boolean key, int lacing) {
        Element cluster = tree.at(parent);
        if (cluster == null || cluster.sort != Sort.CLUSTER) {
            return NONE;
        }
        if (track < 1 || track > MOST_TRACK || time < -32768 || time > 32767 || !atHand.suit(lacing)) {
            return DATA;
        }
        if (!tree.canStore(atHand.filled)) {
            return ROOM;
        }
        Element made = tree.add(cluster, Sort.BLOCK, Sort.BLOCK.tag);
        if (made == null) {
            return ROOM;
        }
        made.setDetails(track, time, key, lacing);
        atHand.moveTo(made, tree);
        return made.number;
    }

    public int id(int k) {
        Element e = tree.at(k);
        return e == null ? NONE : e.tag;
    }

    public int parent(int k) {
        Element e = tree.at(k);
        return e == null || e.master == null ? NONE : e.master.number;
    }

    public long value(int k) {
        Element e = tree.at(k);
        if (e == null) {
            return NONE;
        }
        return e.sort.form == IS_MASTER ? tree.childrenOf(e) : e.amount;
    }

    public int part(int k, int i) {
        Element e = tree.at(k);
        if (e == null || i < 0) {
            return NONE;
        }
        switch (e.sort.form) {
            case IS_MASTER:
                return tree.childOf(e, i);
            case IS_TEXT:
            case IS_BLOCK:
                return e.partAt(i);
            case IS_FOREIGN:
                return i < e.storedSize ? tree.storedAt(e.storedFrom + i) : NONE;
            default:
                return NONE;
        }
    }

    public int sample(int k, int j, int i) {
        Element e = tree.at(k);
        if (e == null || e.sort != Sort.BLOCK || j < 0 || i < 0 || i >= e.partAt(j)) {
            return NONE;
        }
        int from = e.storedFrom;
        for (int before = 0; before < j; before++) {
            from += e.partAt(before);
        }
        return tree.storedAt(from + i);
    }

    public int detail(int k, int what) {
        Element e = tree.at(k);
        if (e == null || e.sort != Sort.BLOCK) {
            return NO_DETAIL;
        }
        switch (what) {
            case 0:
                return e.track;
            case 1:
                return e.time;
            case 2:
                return e.key ? 1 : 0;
            case 3:
                return e.lacing;
            default:
                return NO_DETAIL;
        }
    }

    public int write(boolean live) {
        return writer.measureTree(live) > MOST_BYTES ? LONG : writer.putTree(live);
    }

    public int index(int k) {
        Element segment = segmentAt(k);
        return segment == null ? NONE : finder.renewCues(segment);
    }

    public int seek(int k, int track, long moment) {
        Element segment = segmentAt(k);
        return segment == null ? NONE : finder.findByBlocks(segment, track, moment);
    }

    public int jump(int k, int track, long moment) {
        Element segment = segmentAt(k);
        return segment == null ? NONE : finder.findByCues(segment, track, moment);
    }

    private Element segmentAt(int k) {
        Element e = tree.at(k);
        return e != null && e.sort == Sort.SEGMENT ? e : null;
    }

    private static boolean isLetter(int code) {
        return code >= 32 && code <= 126;
    }

    /** How many bytes a vint has, by its first one; 9 when that is 0 and so begins none. */
    private static int vintLengthByFirst(int first) {
        int length = 1;
        while (length < 9 && (first >> (8 - length)) == 0) {
            length++;
        }
        return length;
    }

    /** The value of a vint of 1 to 8 bytes that is full of ones. */
    private static long allOnes(int length) {
        return (1L << (7 * length)) - 1;
    }

    /** What a vint in lacing 3 has more than the difference for which it stands. */
    private static long surplus(int length) {
        return (1L << (7 * length - 1)) - 1;
    }

    private static int shortestVintLength(long value) {
        int length = 1;
        while (length < 8 && value >= allOnes(length)) {
            length++;
        }
        return length;
    }

    /** The elements by their ID: what their data are, and where they may stand. */
    private enum Sort {
        HEAD(0x1A45DFA3, IS_MASTER, AT_TOP, IN_HEAD),
        SEGMENT(0x18538067, IS_MASTER, AT_TOP, IN_SEGMENT),
        VERSION(0x4286, IS_NUMBER, IN_HEAD, 0),
        TYPE(0x4282, IS_TEXT, IN_HEAD, 0),
        TRACK(0xAE, IS_MASTER, IN_SEGMENT, IN_TRACK),
        NUMBER(0xD7, IS_NUMBER, IN_TRACK, 0),
        NAME(0x536E, IS_TEXT, IN_TRACK, 0),
        CLUSTER(0x1F43B675, IS_MASTER, IN_SEGMENT, IN_CLUSTER),
        TIME(0xE7, IS_NUMBER, IN_CLUSTER, 0),
        BLOCK(0xA3, IS_BLOCK, IN_CLUSTER, 0),
        CUE(0xBB, IS_MASTER, IN_SEGMENT, IN_CUE),
        WHEN(0xB3, IS_NUMBER, IN_CUE, 0),
        WHOSE(0xF7, IS_NUMBER, IN_CUE, 0),
        WHICH(0xF1, IS_NUMBER, IN_CUE, 0),
        CHECK(0xBF, IS_CHECK, IN_HEAD | IN_TRACK | IN_CUE, 0),
        VOID(0xEC, IS_VOID, ANYWHERE, 0),
        FOREIGN(0, IS_FOREIGN, ANYWHERE, 0);

        private static final Sort[] ALL = values();

        final int tag;
        final int form;
        final int places;
        // The place that it is for its children; no place at all when it is no master.
        final int inside;

        Sort(int tag, int form, int places, int inside) {
            this.tag = tag;
            this.form = form;
            this.places = places;
            this.inside = inside;
        }

        static Sort of(int tag) {
            for (int i = 0; i < ALL.length; i++) {
                if (ALL[i].tag == tag) {
                    return ALL[i];
                }
            }
            return FOREIGN;
        }

        boolean fits(int place) {
            return (places & place) != 0;
        }
    }

    /** Bytes behind one another; one of no room only counts what is put into it. */
    private static final class Row {
        final int[] bytes;
        int count;

        Row(int room) {
            bytes = new int[room < 0 ? 0 : room];
        }

        int at(int i) {
            return i >= 0 && i < count && i < bytes.length ? bytes[i] : NONE;
        }

        void change(int i, int b) {
            if (i >= 0 && i < count && i < bytes.length) {
                bytes[i] = b & 255;
            }
        }

        void put(int b) {
            if (count < bytes.length) {
                bytes[count] = b & 255;
            }
            count++;
        }

        /** The lowest bytes of a number, the highest of them first. */
        void putNumber(long number, int length) {
            for (int i = length - 1; i >= 0; i--) {
                put((int) (number >>> (8 * i)));
            }
        }

        void putVint(long value, int length) {
            putNumber(allOnes(length) + 1 | value, length);
        }

        /** The sum that a CHECK has of the bytes from one place to before another. */
        int sum(int from, int to) {
            int bits = -1;
            for (int i = from; i < to; i++) {
                bits ^= at(i) & 255;
                for (int turn = 0; turn < 8; turn++) {
                    bits = (bits & 1) != 0 ? (bits >>> 1) ^ SUM_BITS : bits >>> 1;
                }
            }
            return ~bits;
        }
    }

    /** The frames that the next block will get. */
    private static final class Frames {
        final int[] sizes = new int[MOST_FRAMES];
        final int[] bytes = new int[MOST_AT_HAND];
        int count;
        int filled;

        boolean add(int size, int first) {
            if (count >= sizes.length || filled + size > bytes.length) {
                return false;
            }
            for (int i = 0; i < size; i++) {
                bytes[filled + i] = (first + i) & 255;
            }
            sizes[count] = size;
            count++;
            filled += size;
            return true;
        }

        /** Whether a block with this lacing can have them. */
        boolean suit(int lacing) {
            if (lacing < 0 || lacing > 3 || count == 0) {
                return false;
            }
            if (lacing == 0) {
                return count == 1;
            }
            return lacing != 2 || areEven();
        }

        private boolean areEven() {
            for (int i = 1; i < count; i++) {
                if (sizes[i] != sizes[0]) {
                    return false;
                }
            }
            return true;
        }

        void moveTo(Element block, Tree tree) {
            for (int i = 0; i < count; i++) {
                block.addPart(sizes[i]);
            }
            tree.beginStoring(block);
            for (int i = 0; i < filled; i++) {
                tree.storeFor(block, bytes[i]);
            }
            count = 0;
            filled = 0;
        }
    }

    /** One element of the tree; what is not of its sort has no meaning. */
    private static final class Element {
        Sort sort = Sort.FOREIGN;
        // Its ID.
        int tag;
        Element master;
        int level;
        int number;
        // A number's value, or how many letters, frames or bytes there are.
        long amount;
        // The letters of a text or the sizes of a block's frames.
        final int[] parts = new int[MOST_LETTERS];
        int storedFrom;
        int storedSize;
        int track;
        int time;
        boolean key;
        int lacing;
        // While it is read: where its data end, and whether its size is unknown.
        int end;
        boolean open;
        // While it is written: how many bytes its data have, and where they begin.
        int dataSize;
        int dataPlace;

        void begin(Sort newSort, int newTag, Element newMaster) {
            sort = newSort;
            tag = newTag;
            master = newMaster;
            level = newMaster == null ? 0 : newMaster.level + 1;
            amount = 0;
            storedFrom = 0;
            storedSize = 0;
        }

        void setDetails(int newTrack, int newTime, boolean isKey, int newLacing) {
            track = newTrack;
            time = newTime;
            key = isKey;
            lacing = newLacing;
        }

        boolean addPart(int part) {
            if (amount < 0 || amount >= parts.length) {
                return false;
            }
            parts[(int) amount] = part;
            amount++;
            return true;
        }

        int partAt(int i) {
            return i >= 0 && i < amount && i < parts.length ? parts[i] : NONE;
        }
    }

    /** The elements in the order of writing, and the bytes that blocks and FOREIGN ones have. */
    private static final class Tree {
        // Behind the first count ones stand those that were used before and can be used again.
        final Element[] line = new Element[MOST_ELEMENTS];
        final Element[] aside = new Element[MOST_ELEMENTS];
        int count;
        final int[] store = new int[MOST_STORED];
        int stored;

        void empty() {
            count = 0;
            stored = 0;
        }

        Element at(int k) {
            return k >= 0 && k < count ? line[k] : null;
        }

        /** The number behind the last element that stands in this one. */
        int endOf(Element e) {
            int k = e.number + 1;
            while (k < count && line[k].level > e.level) {
                k++;
            }
            return k;
        }

        int childrenOf(Element master) {
            int children = 0;
            int end = endOf(master);
            for (int k = master.number + 1; k < end; k++) {
                if (line[k].master == master) {
                    children++;
                }
            }
            return children;
        }

        int childOf(Element master, int i) {
            int before = 0;
            int end = endOf(master);
            for (int k = master.number + 1; k < end; k++) {
                if (line[k].master == master) {
                    if (before == i) {
                        return k;
                    }
                    before++;
                }
            }
            return NONE;
        }

        /** Whether an element of the sort may be the next child of the master (null: at the top). */
        boolean mayStand(Sort sort, Element master) {
            if (master == null) {
                return sort.fits(AT_TOP);
            }
            boolean late = sort == Sort.CHECK && endOf(master) > master.number + 1;
            return sort.fits(master.sort.inside) && !late;
        }

        /** A new last child of the master (null: the last one at the top); null without room. */
        Element add(Element master, Sort sort, int tag) {
            if (count >= line.length) {
                return null;
            }
            Element added = line[count] == null ? new Element() : line[count];
            int place = master == null ? count : endOf(master);
            for (int k = count; k > place; k--) {
                putInLine(k, line[k - 1]);
            }
            putInLine(place, added);
            count++;
            added.begin(sort, tag, master);
            return added;
        }

        private void putInLine(int k, Element e) {
            line[k] = e;
            e.number = k;
        }

        /** How many elements the children of this sort are, with all that is in them. */
        int weigh(Element master, Sort sort) {
            int found = 0;
            boolean counts = false;
            int end = endOf(master);
            for (int k = master.number + 1; k < end; k++) {
                if (line[k].master == master) {
                    counts = line[k].sort == sort;
                }
                if (counts) {
                    found++;
                }
            }
            return found;
        }

        /** Takes out the children of this sort, with all that is in them. */
        void takeOut(Element master, Sort sort) {
            int gone = 0;
            int kept = master.number + 1;
            boolean goes = false;
            int end = endOf(master);
            for (int k = kept; k < count; k++) {
                Element e = line[k];
                if (k >= end) {
                    goes = false;
                } else if (e.master == master) {
                    goes = e.sort == sort;
                }
                if (goes) {
                    aside[gone] = e;
                    gone++;
                } else {
                    putInLine(kept, e);
                    kept++;
                }
            }
            count = kept;
            for (int k = 0; k < gone; k++) {
                line[kept + k] = aside[k];
            }
        }

        boolean canStore(int bytes) {
            return stored + bytes <= store.length;
        }

        void beginStoring(Element e) {
            e.storedFrom = stored;
            e.storedSize = 0;
        }

        void storeFor(Element e, int b) {
            if (stored < store.length) {
                store[stored] = b;
                stored++;
                e.storedSize++;
            }
        }

        int storedAt(int i) {
            return i >= 0 && i < stored ? store[i] : NONE;
        }
    }

    /** Makes the tree from the bytes that were fed. */
    private static final class Reader {
        final Row source;
        final Tree tree;
        int faultPlace = NONE;
        // The innermost master whose data are not at their end; null at the top.
        Element master;
        int place;
        // Where that ends of which bytes are read: first the master's data, then the element's.
        int end;
        int tag;
        boolean vintIsFull;
        int vintLength;

        Reader(Row source, Tree tree) {
            this.source = source;
            this.tree = tree;
        }

        int readTree() {
            tree.empty();
            faultPlace = NONE;
            master = null;
            place = 0;
            // One turn more than there can be elements: that one meets a fault.
            for (int turn = 0; turn <= MOST_ELEMENTS && place < source.count; turn++) {
                int begin = place;
                int answer = readTag();
                if (answer == 0) {
                    answer = readSize();
                }
                if (answer == 0) {
                    answer = readData();
                }
                if (answer < 0) {
                    faultPlace = begin;
                    // What was stored still counts until the next read() or clear().
                    tree.count = 0;
                    return answer;
                }
            }
            return tree.count;
        }

        private int readTag() {
            while (master != null && place >= master.end) {
                master = master.master;
            }
            end = master == null ? source.count : master.end;
            int first = source.at(place);
            if (first < 16) {
                return FORM;
            }
            int length = vintLengthByFirst(first);
            if (length > end - place) {
                return CUT;
            }
            tag = (int) nextNumber(length);
            Sort sort = Sort.of(tag);
            // The end stays what it is: that of a master of unknown size is its own master's.
            while (master != null && master.open && !sort.fits(master.sort.inside)) {
                master = master.master;
            }
            return tree.mayStand(sort, master) ? 0 : MISPLACED;
        }

        /** Reads the size and adds the element, whose data then begin at the place. */
        private int readSize() {
            if (place >= end) {
                return CUT;
            }
            if (source.at(place) == 0) {
                return FORM;
            }
            long size = nextVint();
            if (size < 0) {
                return CUT;
            }
            boolean open = vintIsFull;
            Sort sort = Sort.of(tag);
            if (open && sort != Sort.SEGMENT && sort != Sort.CLUSTER) {
                return OPEN;
            }
            if (!open && size > end - place) {
                return CUT;
            }
            Element e = tree.add(master, sort, tag);
            if (e == null) {
                return ROOM;
            }
            if (!open) {
                end = place + (int) size;
            }
            e.end = end;
            e.open = open;
            return 0;
        }

        /** Reads the data of the element that was added last. */
        private int readData() {
            Element e = tree.at(tree.count - 1);
            if (e == null) {
                return ROOM;
            }
            boolean good = true;
            switch (e.sort.form) {
                case IS_MASTER:
                    master = e;
                    return 0;
                case IS_NUMBER:
                    good = end - place <= 8;
                    e.amount = nextNumber(Math.min(end - place, 8));
                    break;
                case IS_TEXT:
                    good = readText(e);
                    break;
                case IS_BLOCK:
                    good = readSizes(e, readBlockHead(e));
                    if (good) {
                        storeRest(e);
                    }
                    break;
                case IS_CHECK:
                    good = readCheck(e);
                    break;
                case IS_FOREIGN:
                    e.amount = end - place;
                    storeRest(e);
                    break;
                default:
                    e.amount = end - place;
                    break;
            }
            place = end;
            return good ? 0 : DATA;
        }

        private boolean readText(Element e) {
            boolean over = false;
            for (int i = place; i < end; i++) {
                int code = source.at(i);
                if (code == 0) {
                    over = true;
                } else if (over || !isLetter(code) || !e.addPart(code)) {
                    return false;
                }
            }
            return true;
        }

        private boolean readCheck(Element e) {
            if (end - place != CHECK_SIZE || e.master == null) {
                return false;
            }
            int due = source.sum(end, e.master.end);
            for (int i = 0; i < CHECK_SIZE; i++) {
                if (source.at(place + i) != ((due >>> (8 * i)) & 255)) {
                    return false;
                }
            }
            return true;
        }

        /** Reads what stands before the sizes; answers how many frames are told, below 1 for a fault. */
        private int readBlockHead(Element e) {
            long track = nextVint();
            if (track < 1 || track > MOST_TRACK || end - place < 3) {
                return 0;
            }
            int time = (short) nextNumber(2);
            int flags = nextByte();
            int lacing = (flags >> 1) & 3;
            if ((flags & 127) != 2 * lacing) {
                return 0;
            }
            e.setDetails((int) track, time, flags >= 128, lacing);
            return lacing == 0 ? 1 : nextByte() + 1;
        }

        private boolean shareEvenly(Element e, int frames) {
            if (frames < 1 || (end - place) % frames != 0) {
                return false;
            }
            for (int i = 0; i < frames; i++) {
                e.addPart((end - place) / frames);
            }
            return true;
        }

        /** Reads the sizes of the frames; the place is then where the frames begin. */
        private boolean readSizes(Element e, int frames) {
            if (frames < 1 || frames > MOST_FRAMES) {
                return false;
            }
            if (e.lacing == 2) {
                return shareEvenly(e, frames);
            }
            int sum = 0;
            long size = 0;
            for (int i = 0; i < frames - 1; i++) {
                if (e.lacing == 1) {
                    size = nextSizeOfBytes();
                } else {
                    long value = nextVint();
                    if (value < 0 || vintIsFull) {
                        return false;
                    }
                    size = i == 0 ? value : size + value - surplus(vintLength);
                }
                if (size < 0 || size > end - place) {
                    return false;
                }
                sum += (int) size;
                e.addPart((int) size);
            }
            if (sum > end - place) {
                return false;
            }
            return e.addPart(end - place - sum);
        }

        private long nextSizeOfBytes() {
            long size = 0;
            for (int i = place; i < end; i++) {
                int b = nextByte();
                size += b;
                if (b < 255) {
                    return size;
                }
            }
            return NONE;
        }

        private void storeRest(Element e) {
            tree.beginStoring(e);
            for (int i = place; i < end; i++) {
                tree.storeFor(e, source.at(i));
            }
        }

        private int nextByte() {
            if (place >= end) {
                return NONE;
            }
            int b = source.at(place);
            place++;
            return b;
        }

        /** The number that the next bytes make; the caller has seen that they are there. */
        private long nextNumber(int length) {
            long number = 0;
            for (int i = 0; i < length; i++) {
                number = number << 8 | source.at(place + i) & 255;
            }
            place += length;
            return number;
        }

        /** The value of the next vint; NONE when there is no whole one before the end. */
        private long nextVint() {
            if (place >= end) {
                return NONE;
            }
            vintLength = vintLengthByFirst(source.at(place));
            if (vintLength > 8 || vintLength > end - place) {
                return NONE;
            }
            long ones = allOnes(vintLength);
            long value = nextNumber(vintLength) & ones;
            vintIsFull = value == ones;
            return value;
        }
    }

    /** Writes the tree. */
    private static final class Writer {
        final Tree tree;
        final Row target;
        final Row counter = new Row(0);

        Writer(Tree tree, Row target) {
            this.tree = tree;
            this.target = target;
        }

        /** Tells each element how many bytes its data have; answers how many the whole has. */
        int measureTree(boolean live) {
            for (int k = 0; k < tree.count; k++) {
                counter.count = 0;
                putLeaf(tree.line[k], counter);
                tree.line[k].dataSize = counter.count;
            }
            int total = 0;
            // From the last one on, so that a master's size is known when its turn comes.
            for (int k = tree.count - 1; k >= 0; k--) {
                Element e = tree.line[k];
                int sizeLength = isOpen(e, live) ? 1 : shortestVintLength(e.dataSize);
                int whole = fewestBytes(e.tag) + sizeLength + e.dataSize;
                if (e.master == null) {
                    total += whole;
                } else {
                    e.master.dataSize += whole;
                }
            }
            return total;
        }

        /** Writes what was measured. */
        int putTree(boolean live) {
            target.count = 0;
            for (int k = 0; k < tree.count; k++) {
                putHeader(tree.line[k], live);
                putLeaf(tree.line[k], target);
            }
            for (int k = 0; k < tree.count; k++) {
                if (tree.line[k].sort == Sort.CHECK) {
                    fillCheck(tree.line[k]);
                }
            }
            return target.count;
        }

        private static boolean isOpen(Element e, boolean live) {
            return live && (e.sort == Sort.SEGMENT || e.sort == Sort.CLUSTER);
        }

        private void putHeader(Element e, boolean live) {
            target.putNumber(e.tag, fewestBytes(e.tag));
            if (isOpen(e, live)) {
                target.put(255);
            } else {
                target.putVint(e.dataSize, shortestVintLength(e.dataSize));
            }
            e.dataPlace = target.count;
        }

        /** The data of an element; none of a master, whose children put their own. */
        private void putLeaf(Element e, Row row) {
            switch (e.sort.form) {
                case IS_NUMBER:
                    row.putNumber(e.amount, fewestBytes(e.amount));
                    break;
                case IS_TEXT:
                    putText(e, row);
                    break;
                case IS_BLOCK:
                    putBlockHead(e, row);
                    putSizes(e, row);
                    putStored(e, row);
                    break;
                case IS_CHECK:
                    // The sum is filled in when what it sums up has been written.
                    row.putNumber(0, CHECK_SIZE);
                    break;
                case IS_VOID:
                    putZeros(e, row);
                    break;
                case IS_FOREIGN:
                    putStored(e, row);
                    break;
                default:
                    break;
            }
        }

        private static int fewestBytes(long number) {
            int length = 1;
            while (length < 8 && (number >>> (8 * length)) != 0) {
                length++;
            }
            return length;
        }

        private static void putText(Element e, Row row) {
            for (int i = 0; i < e.amount; i++) {
                row.put(e.partAt(i));
            }
        }

        private static void putZeros(Element e, Row row) {
            for (int i = 0; i < e.amount; i++) {
                row.put(0);
            }
        }

        private void putStored(Element e, Row row) {
            for (int i = 0; i < e.storedSize; i++) {
                row.put(tree.storedAt(e.storedFrom + i));
            }
        }

        private static void putBlockHead(Element e, Row row) {
            row.putVint(e.track, shortestVintLength(e.track));
            row.putNumber(e.time, 2);
            row.put((e.key ? 128 : 0) + 2 * e.lacing);
            if (e.lacing != 0) {
                row.put((int) e.amount - 1);
            }
        }

        private static void putSizes(Element e, Row row) {
            for (int i = 0; i < e.amount - 1; i++) {
                int size = e.partAt(i);
                if (e.lacing == 1) {
                    putSizeOfBytes(size, row);
                } else if (e.lacing == 3 && i == 0) {
                    row.putVint(size, shortestVintLength(size));
                } else if (e.lacing == 3) {
                    int difference = size - e.partAt(i - 1);
                    int length = shortestDifferenceLength(difference);
                    row.putVint(difference + surplus(length), length);
                }
            }
        }

        private static void putSizeOfBytes(int size, Row row) {
            int rest = size;
            while (rest >= 255) {
                row.put(255);
                rest -= 255;
            }
            row.put(rest);
        }

        private static int shortestDifferenceLength(int difference) {
            int length = 1;
            while (length < 8 && Math.abs(difference) > surplus(length)) {
                length++;
            }
            return length;
        }

        private void fillCheck(Element check) {
            if (check.master == null) {
                return;
            }
            int behind = check.dataPlace + CHECK_SIZE;
            int sum = target.sum(behind, check.master.dataPlace + check.master.dataSize);
            for (int i = 0; i < CHECK_SIZE; i++) {
                target.change(check.dataPlace + i, sum >>> (8 * i));
            }
        }
    }

    /** Finds the blocks of a SEGMENT, and makes the CUEs by which they are found. */
    private static final class Finder {
        final Tree tree;

        Finder(Tree tree) {
            this.tree = tree;
        }

        int renewCues(Element segment) {
            int cues = countKeyBlocks(segment);
            int left = tree.count - tree.weigh(segment, Sort.CUE);
            if (left + ELEMENTS_OF_A_CUE * cues > MOST_ELEMENTS) {
                return ROOM;
            }
            tree.takeOut(segment, Sort.CUE);
            int before = 0;
            // CUEs come behind all blocks, so these keep their numbers meanwhile.
            int end = tree.endOf(segment);
            for (int k = segment.number + 1; k < end; k++) {
                Element e = tree.line[k];
                if (e.sort == Sort.BLOCK) {
                    if (e.key) {
                        addCue(segment, e, before);
                    }
                    before++;
                }
            }
            return cues;
        }

        private int countKeyBlocks(Element segment) {
            int keys = 0;
            int end = tree.endOf(segment);
            for (int k = segment.number + 1; k < end; k++) {
                if (tree.line[k].sort == Sort.BLOCK && tree.line[k].key) {
                    keys++;
                }
            }
            return keys;
        }

        private void addCue(Element segment, Element block, int before) {
            Element cue = tree.add(segment, Sort.CUE, Sort.CUE.tag);
            if (cue == null) {
                return;
            }
            addNumber(cue, Sort.WHEN, momentOf(block));
            addNumber(cue, Sort.WHOSE, block.track);
            addNumber(cue, Sort.WHICH, before);
        }

        private void addNumber(Element cue, Sort sort, long number) {
            Element added = tree.add(cue, sort, sort.tag);
            if (added != null) {
                added.amount = number;
            }
        }

        private long momentOf(Element block) {
            return block.master == null ? block.time : firstNumber(block.master, Sort.TIME) + block.time;
        }

        /** The number of the first child of this sort; 0 when the master lacks it. */
        private long firstNumber(Element master, Sort sort) {
            int end = tree.endOf(master);
            for (int k = master.number + 1; k < end; k++) {
                if (tree.line[k].sort == sort) {
                    return tree.line[k].amount;
                }
            }
            return 0;
        }

        int findByBlocks(Element segment, int track, long moment) {
            int end = tree.endOf(segment);
            for (int k = end - 1; k > segment.number; k--) {
                Element e = tree.line[k];
                if (e.sort == Sort.BLOCK && e.key && e.track == track && momentOf(e) <= moment) {
                    return k;
                }
            }
            return NONE;
        }

        int findByCues(Element segment, int track, long moment) {
            int end = tree.endOf(segment);
            for (int k = end - 1; k > segment.number; k--) {
                Element e = tree.line[k];
                if (e.sort == Sort.CUE && firstNumber(e, Sort.WHOSE) == track
                        && firstNumber(e, Sort.WHEN) <= moment) {
                    return blockWithBefore(segment, firstNumber(e, Sort.WHICH));
                }
            }
            return NONE;
        }

        /** The block of the SEGMENT with so many blocks before it. */
        private int blockWithBefore(Element segment, long wanted) {
            long before = 0;
            int end = tree.endOf(segment);
            for (int k = segment.number + 1; k < end; k++) {
                if (tree.line[k].sort == Sort.BLOCK) {
                    if (before == wanted) {
                        return k;
                    }
                    before++;
                }
            }
            return NONE;
        }
    }
}
