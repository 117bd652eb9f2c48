import java.io.ByteArrayOutputStream;
import java.util.ArrayList;
import java.util.Arrays;
import java.util.List;
import java.util.zip.CRC32;

/**
 * The document once more, written plainly and apart from the program: a tree of nodes that is read
 * and written by recursion. The random runs compare the program's answers with this one's.
 */
final class Model {
    /** An element. */
    static final class Node {
        int id;
        Node master;
        List<Node> children = new ArrayList<>();
        long number;
        String text = "";
        byte[] data = new byte[0];
        List<byte[]> frames = new ArrayList<>();
        int track;
        int time;
        boolean key;
        int lacing;

        Node(int id, Node master) {
            this.id = id;
            this.master = master;
        }
    }

    /** A fault of reading. */
    private static final class Fault extends Exception {
        private static final long serialVersionUID = 1L;
        final int code;
        final int place;

        Fault(int code, int place) {
            this.code = code;
            this.place = place;
        }
    }

    private byte[] in = new byte[0];
    private byte[] out = new byte[0];
    private List<byte[]> hand = new ArrayList<>();
    private Node top = new Node(-1, null);
    private int used;
    private int where = -1;
    private int made;

    static String kind(int id) {
        switch (id) {
            case Due.HEAD: case Due.SEGMENT: case Due.TRACK: case Due.CLUSTER: case Due.CUE: case -1:
                return "master";
            case Due.VERSION: case Due.NUMBER: case Due.TIME: case Due.WHEN: case Due.WHOSE: case Due.WHICH:
                return "number";
            case Due.TYPE: case Due.NAME:
                return "text";
            case Due.BLOCK:
                return "block";
            case Due.CHECK:
                return "check";
            case Due.VOID:
                return "void";
            default:
                return "foreign";
        }
    }

    static boolean mayStand(int id, int master) {
        if (!kind(master).equals("master")) {
            return false;
        }
        switch (id) {
            case Due.HEAD: case Due.SEGMENT:
                return master == -1;
            case Due.VERSION: case Due.TYPE:
                return master == Due.HEAD;
            case Due.TRACK: case Due.CLUSTER: case Due.CUE:
                return master == Due.SEGMENT;
            case Due.NUMBER: case Due.NAME:
                return master == Due.TRACK;
            case Due.TIME: case Due.BLOCK:
                return master == Due.CLUSTER;
            case Due.WHEN: case Due.WHOSE: case Due.WHICH:
                return master == Due.CUE;
            case Due.CHECK:
                return master == Due.HEAD || master == Due.TRACK || master == Due.CUE;
            default:
                return true;
        }
    }

    // ---- the tree by numbers

    private static void collect(Node node, List<Node> list) {
        for (Node child : node.children) {
            list.add(child);
            collect(child, list);
        }
    }

    List<Node> nodes() {
        return nodes(top);
    }

    private static List<Node> nodes(Node node) {
        List<Node> list = new ArrayList<>();
        collect(node, list);
        return list;
    }

    private Node node(int k) {
        List<Node> list = nodes();
        return k >= 0 && k < list.size() ? list.get(k) : null;
    }

    private int number(Node node) {
        return nodes().indexOf(node);
    }

    // ---- the calls

    int feed(long bytes, int n) {
        if (n < 1 || n > 8) {
            return -1;
        }
        if (in.length + n > 640) {
            return -8;
        }
        int old = in.length;
        in = Arrays.copyOf(in, old + n);
        for (int i = 0; i < n; i++) {
            in[old + n - 1 - i] = (byte) (bytes >> (8 * i));
        }
        return in.length;
    }

    int take(boolean all) {
        in = all ? out.clone() : new byte[0];
        return in.length;
    }

    int out(int i) {
        return i >= 0 && i < out.length ? out[i] & 255 : -1;
    }

    int read() {
        top = new Node(-1, null);
        used = 0;
        where = -1;
        made = 0;
        try {
            parse(top, 0, in.length, false);
        } catch (Fault fault) {
            top = new Node(-1, null);
            where = fault.place;
            return fault.code;
        }
        return nodes().size();
    }

    int where() {
        return where;
    }

    void clear() {
        top = new Node(-1, null);
        used = 0;
    }

    int make(int parent, int id, long value) {
        Node master = parent == -1 ? top : node(parent);
        if (master == null) {
            return -1;
        }
        if (id == Due.BLOCK || id == -1 || kind(id).equals("foreign") || !mayStand(id, master.id)
                || id == Due.CHECK && !master.children.isEmpty()) {
            return -4;
        }
        if (id == Due.VOID && (value < 0 || value > 64)) {
            return -7;
        }
        if (nodes().size() >= 60) {
            return -6;
        }
        Node node = new Node(id, master);
        node.number = value;
        master.children.add(node);
        return number(node);
    }

    int letter(int k, char c) {
        Node node = node(k);
        if (node == null || !kind(node.id).equals("text") || c < 32 || c > 126) {
            return -1;
        }
        if (node.text.length() == 16) {
            return -8;
        }
        node.text += c;
        return node.text.length();
    }

    private static int bytesOf(List<byte[]> frames) {
        return frames.stream().mapToInt(frame -> frame.length).sum();
    }

    int frame(int n, int first) {
        if (n < 0 || n > 300 || first < 0 || first > 255) {
            return -1;
        }
        if (hand.size() == 8 || bytesOf(hand) + n > 400) {
            return -6;
        }
        byte[] frame = new byte[n];
        for (int i = 0; i < n; i++) {
            frame[i] = (byte) (first + i);
        }
        hand.add(frame);
        return hand.size();
    }

    int block(int parent, int track, int time, boolean key, int lacing) {
        Node master = node(parent);
        if (master == null || master.id != Due.CLUSTER) {
            return -1;
        }
        boolean even = hand.stream().mapToInt(frame -> frame.length).distinct().count() <= 1;
        if (track < 1 || track > 126 || time != (short) time || lacing < 0 || lacing > 3 || hand.isEmpty()
                || lacing == 0 && hand.size() > 1 || lacing == 2 && !even) {
            return -7;
        }
        if (nodes().size() >= 60 || used + bytesOf(hand) > 1200) {
            return -6;
        }
        Node node = new Node(Due.BLOCK, master);
        node.track = track;
        node.time = time;
        node.key = key;
        node.lacing = lacing;
        node.frames = hand;
        used += bytesOf(hand);
        hand = new ArrayList<>();
        master.children.add(node);
        return number(node);
    }

    int id(int k) {
        return node(k) == null ? -1 : node(k).id;
    }

    int parent(int k) {
        return node(k) == null ? -1 : number(node(k).master);
    }

    long value(int k) {
        Node node = node(k);
        if (node == null) {
            return -1;
        }
        switch (kind(node.id)) {
            case "master":
                return node.children.size();
            case "number": case "void":
                return node.number;
            case "text":
                return node.text.length();
            case "block":
                return node.frames.size();
            case "foreign":
                return node.data.length;
            default:
                return 0;
        }
    }

    int part(int k, int i) {
        Node node = node(k);
        if (node == null || i < 0) {
            return -1;
        }
        switch (kind(node.id)) {
            case "master":
                return i < node.children.size() ? number(node.children.get(i)) : -1;
            case "text":
                return i < node.text.length() ? node.text.charAt(i) : -1;
            case "block":
                return i < node.frames.size() ? node.frames.get(i).length : -1;
            case "foreign":
                return i < node.data.length ? node.data[i] & 255 : -1;
            default:
                return -1;
        }
    }

    int sample(int k, int j, int i) {
        Node node = node(k);
        if (node == null || node.id != Due.BLOCK || j < 0 || j >= node.frames.size()) {
            return -1;
        }
        byte[] frame = node.frames.get(j);
        return i >= 0 && i < frame.length ? frame[i] & 255 : -1;
    }

    int detail(int k, int what) {
        Node node = node(k);
        if (node == null || node.id != Due.BLOCK || what < 0 || what > 3) {
            return -65536;
        }
        return new int[] {node.track, node.time, node.key ? 1 : 0, node.lacing}[what];
    }

    int write(boolean live) {
        byte[] all = childrenBytes(top, live);
        if (all.length > 640) {
            return -8;
        }
        out = all;
        return out.length;
    }

    private static List<Node> blocks(Node segment) {
        List<Node> blocks = nodes(segment);
        blocks.removeIf(node -> node.id != Due.BLOCK);
        return blocks;
    }

    private static long first(Node master, int id) {
        return master.children.stream().filter(node -> node.id == id).findFirst().map(node -> node.number).orElse(0L);
    }

    private static long moment(Node block) {
        return first(block.master, Due.TIME) + block.time;
    }

    private Node segment(int k) {
        Node node = node(k);
        return node != null && node.id == Due.SEGMENT ? node : null;
    }

    int index(int k) {
        Node segment = segment(k);
        if (segment == null) {
            return -1;
        }
        List<Node> rest = new ArrayList<>(segment.children);
        rest.removeIf(node -> node.id == Due.CUE);
        List<Node> blocks = blocks(segment);
        for (int i = 0; i < blocks.size(); i++) {
            if (blocks.get(i).key) {
                Node cue = new Node(Due.CUE, segment);
                int[] ids = {Due.WHEN, Due.WHOSE, Due.WHICH};
                long[] numbers = {moment(blocks.get(i)), blocks.get(i).track, i};
                for (int j = 0; j < 3; j++) {
                    Node child = new Node(ids[j], cue);
                    child.number = numbers[j];
                    cue.children.add(child);
                }
                rest.add(cue);
            }
        }
        List<Node> old = segment.children;
        segment.children = rest;
        if (nodes().size() > 60) {
            segment.children = old;
            return -6;
        }
        return (int) rest.stream().filter(node -> node.id == Due.CUE).count();
    }

    int seek(int k, int track, long moment) {
        Node segment = segment(k);
        int found = -1;
        if (segment != null) {
            for (Node block : blocks(segment)) {
                if (block.key && block.track == track && moment(block) <= moment) {
                    found = number(block);
                }
            }
        }
        return found;
    }

    int jump(int k, int track, long moment) {
        Node segment = segment(k);
        Node found = null;
        if (segment != null) {
            for (Node cue : segment.children) {
                if (cue.id == Due.CUE && first(cue, Due.WHOSE) == track && first(cue, Due.WHEN) <= moment) {
                    found = cue;
                }
            }
        }
        if (found == null) {
            return -1;
        }
        long which = first(found, Due.WHICH);
        List<Node> blocks = blocks(segment);
        return which >= 0 && which < blocks.size() ? number(blocks.get((int) which)) : -1;
    }

    // ---- reading

    /** Reads the children of a master; answers where it ended. */
    private int parse(Node master, int from, int end, boolean unknown) throws Fault {
        int at = from;
        while (at < end) {
            int first = in[at] & 255;
            if (first < 16) {
                throw new Fault(-3, at);
            }
            int length = first >= 128 ? 1 : first >= 64 ? 2 : first >= 32 ? 3 : 4;
            if (at + length > end) {
                throw new Fault(-2, at);
            }
            int id = (int) bigEndian(at, length);
            if (unknown && !mayStand(id, master.id)) {
                return at;
            }
            if (!mayStand(id, master.id) || id == Due.CHECK && !master.children.isEmpty()) {
                throw new Fault(-4, at);
            }
            at = parseRest(master, id, at, at + length, end);
        }
        return at;
    }

    private long bigEndian(int at, int length) {
        long number = 0;
        for (int i = 0; i < length; i++) {
            number = number * 256 + (in[at + i] & 255);
        }
        return number;
    }

    private int parseRest(Node master, int id, int begin, int sizeAt, int end) throws Fault {
        if (sizeAt == end) {
            throw new Fault(-2, begin);
        }
        if (in[sizeAt] == 0) {
            throw new Fault(-3, begin);
        }
        int length = vintLength(sizeAt);
        if (sizeAt + length > end) {
            throw new Fault(-2, begin);
        }
        long size = vintValue(sizeAt, length);
        boolean unknown = size == (1L << (7 * length)) - 1;
        if (unknown && id != Due.SEGMENT && id != Due.CLUSTER) {
            throw new Fault(-5, begin);
        }
        int dataAt = sizeAt + length;
        if (!unknown && dataAt + size > end) {
            throw new Fault(-2, begin);
        }
        if (made == 60) {
            throw new Fault(-6, begin);
        }
        made++;
        Node node = new Node(id, master);
        master.children.add(node);
        int dataEnd = unknown ? end : (int) (dataAt + size);
        if (kind(id).equals("master")) {
            return parse(node, dataAt, dataEnd, unknown);
        }
        if (!fill(node, Arrays.copyOfRange(in, dataAt, dataEnd), Arrays.copyOfRange(in, dataEnd, end))) {
            throw new Fault(-7, begin);
        }
        return dataEnd;
    }

    private int vintLength(int at) {
        return Integer.numberOfLeadingZeros(in[at] & 255) - 23;
    }

    private long vintValue(int at, int length) {
        return bigEndian(at, length) - (1L << (7 * length));
    }

    private boolean fill(Node node, byte[] data, byte[] behind) {
        switch (kind(node.id)) {
            case "number":
                for (byte b : data) {
                    node.number = node.number << 8 | b & 255;
                }
                return data.length <= 8;
            case "text":
                String all = new String(data, java.nio.charset.StandardCharsets.ISO_8859_1);
                node.text = all.replaceAll("\\x00+$", "");
                return node.text.matches("[ -~]{0,16}");
            case "void":
                node.number = data.length;
                return true;
            case "foreign":
                node.data = data;
                used += data.length;
                return true;
            case "check":
                return Arrays.equals(data, sum(behind));
            default:
                boolean good = new BlockParser(data, node).parse();
                if (good) {
                    used += bytesOf(node.frames);
                }
                return good;
        }
    }

    private static byte[] sum(byte[] data) {
        CRC32 crc = new CRC32();
        crc.update(data);
        long sum = crc.getValue();
        return new byte[] {(byte) sum, (byte) (sum >> 8), (byte) (sum >> 16), (byte) (sum >> 24)};
    }

    /** Takes a block's data apart. */
    private static final class BlockParser {
        private final byte[] data;
        private final Node node;
        private int at;
        private int length;

        BlockParser(byte[] data, Node node) {
            this.data = data;
            this.node = node;
        }

        private int one() {
            return at < data.length ? data[at++] & 255 : -1000;
        }

        /** The next vint's value; -1 when it is not there, -2 when it is full of ones. */
        private long vint() {
            int first = one();
            if (first <= 0) {
                return -1;
            }
            length = 1;
            while ((first & (256 >> length)) == 0) {
                length++;
            }
            long value = first & ((256 >> length) - 1);
            for (int i = 1; i < length; i++) {
                int next = one();
                if (next < 0) {
                    return -1;
                }
                value = value << 8 | next;
            }
            return value == (1L << (7 * length)) - 1 ? -2 : value;
        }

        boolean parse() {
            long track = vint();
            int high = one();
            int low = one();
            int flags = one();
            if (track < 1 || track > 126 || flags < 0 || (flags & 0x79) != 0) {
                return false;
            }
            node.track = (int) track;
            node.time = (short) (high * 256 + low);
            node.key = (flags & 128) != 0;
            node.lacing = (flags & 6) / 2;
            int frames = node.lacing == 0 ? 1 : one() + 1;
            if (frames < 1 || frames > 8) {
                return false;
            }
            long[] sizes = new long[frames];
            long sum = 0;
            for (int i = 0; i < frames - 1; i++) {
                sizes[i] = size(i == 0 ? -1 : sizes[i - 1], frames);
                if (sizes[i] < 0) {
                    return false;
                }
                sum += sizes[i];
            }
            sizes[frames - 1] = data.length - at - sum;
            if (sizes[frames - 1] < 0 || node.lacing == 2 && sizes[frames - 1] != sizes[0]) {
                return false;
            }
            for (long size : sizes) {
                node.frames.add(Arrays.copyOfRange(data, at, at + (int) size));
                at += (int) size;
            }
            return true;
        }

        private long size(long before, int frames) {
            if (node.lacing == 2) {
                return (data.length - at) / frames;
            }
            if (node.lacing == 1) {
                int size = 0;
                int b = one();
                while (b == 255) {
                    size += 255;
                    b = one();
                }
                return b < 0 ? -1 : size + b;
            }
            long value = vint();
            if (before < 0 || value < 0) {
                return value;
            }
            return before + value - ((1L << (7 * length - 1)) - 1);
        }
    }

    // ---- writing

    private static byte[] childrenBytes(Node master, boolean live) {
        ByteArrayOutputStream bytes = new ByteArrayOutputStream();
        // From the last one on, because a CHECK has the sum of what stands behind it.
        for (int i = master.children.size() - 1; i >= 0; i--) {
            byte[] behind = bytes.toByteArray();
            bytes.reset();
            bytes.writeBytes(nodeBytes(master.children.get(i), behind, live));
            bytes.writeBytes(behind);
        }
        return bytes.toByteArray();
    }

    private static byte[] nodeBytes(Node node, byte[] behind, boolean live) {
        byte[] data = dataBytes(node, behind, live);
        ByteArrayOutputStream bytes = new ByteArrayOutputStream();
        bytes.writeBytes(fewest(node.id));
        if (live && (node.id == Due.SEGMENT || node.id == Due.CLUSTER)) {
            bytes.write(255);
        } else {
            bytes.writeBytes(shortest(data.length));
        }
        bytes.writeBytes(data);
        return bytes.toByteArray();
    }

    private static byte[] fewest(long number) {
        String hex = Long.toHexString(number);
        String even = hex.length() % 2 == 0 ? hex : "0" + hex;
        byte[] bytes = new byte[even.length() / 2];
        for (int i = 0; i < bytes.length; i++) {
            bytes[i] = (byte) Integer.parseInt(even.substring(2 * i, 2 * i + 2), 16);
        }
        return bytes;
    }

    private static byte[] shortest(int value) {
        if (value < 127) {
            return new byte[] {(byte) (128 + value)};
        }
        if (value >= 16383) {
            throw new IllegalArgumentException("no size here is so great");
        }
        return new byte[] {(byte) (64 + value / 256), (byte) value};
    }

    private static byte[] dataBytes(Node node, byte[] behind, boolean live) {
        switch (kind(node.id)) {
            case "master":
                return childrenBytes(node, live);
            case "number":
                return fewest(node.number);
            case "text":
                return node.text.getBytes(java.nio.charset.StandardCharsets.ISO_8859_1);
            case "void":
                return new byte[(int) node.number];
            case "foreign":
                return node.data;
            case "check":
                return sum(behind);
            default:
                return blockBytes(node);
        }
    }

    private static byte[] blockBytes(Node node) {
        ByteArrayOutputStream bytes = new ByteArrayOutputStream();
        bytes.write(128 + node.track);
        bytes.write(node.time >> 8);
        bytes.write(node.time);
        bytes.write((node.key ? 128 : 0) + 2 * node.lacing);
        if (node.lacing != 0) {
            bytes.write(node.frames.size() - 1);
        }
        for (int i = 0; i < node.frames.size() - 1; i++) {
            int size = node.frames.get(i).length;
            if (node.lacing == 1) {
                for (int j = 0; j < size / 255; j++) {
                    bytes.write(255);
                }
                bytes.write(size % 255);
            } else if (node.lacing == 3 && i == 0) {
                bytes.writeBytes(shortest(size));
            } else if (node.lacing == 3) {
                int difference = size - node.frames.get(i - 1).length;
                if (difference >= -63 && difference <= 63) {
                    bytes.write(128 + difference + 63);
                } else {
                    bytes.write((16384 + difference + 8191) >> 8);
                    bytes.write(16384 + difference + 8191);
                }
            }
        }
        for (byte[] frame : node.frames) {
            bytes.writeBytes(frame);
        }
        return bytes.toByteArray();
    }
}
