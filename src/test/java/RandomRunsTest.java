import java.io.ByteArrayOutputStream;
import java.util.Random;
import java.util.zip.CRC32;

/** Runs of calls drawn from fixed seeds, each answer compared with that of the Model. */
public final class RandomRunsTest {
    private static final int[] IDS = {Due.HEAD, Due.SEGMENT, Due.VERSION, Due.TYPE, Due.TRACK, Due.NUMBER,
        Due.NAME, Due.CLUSTER, Due.TIME, Due.BLOCK, Due.CUE, Due.WHEN, Due.WHOSE, Due.WHICH, Due.CHECK,
        Due.VOID, 0x81, 0x4081, 0x200001, 0x10000001, 0xFF};
    private static final long[] ODD = {0, 1, -1, 2, 64, 65, 127, 128, 255, 256, 300, 65535, 32767, -32768,
        1L << 31, 1L << 32, 1L << 55, 1L << 56, Long.MAX_VALUE, Long.MIN_VALUE, Integer.MAX_VALUE,
        Integer.MIN_VALUE};
    private static final int RUNS = 3000;
    // The last step of a run may be a whole file, which is up to 83 calls: 512 are not gone beyond.
    private static final int CALLS = 420;

    private final Random random;
    private final String run;
    private final Bounded x = new Bounded();
    private final Model model = new Model();
    private int calls;

    private RandomRunsTest(int seed) {
        random = new Random(seed);
        run = "run " + seed + ", call ";
    }

    public static void main(String[] args) {
        int[] answers = new int[9];
        for (int seed = 1; seed <= RUNS; seed++) {
            new RandomRunsTest(seed).go(answers);
        }
        // Runs that never come to an answer would show nothing of it.
        for (int code = 2; code <= 7; code++) {
            Due.is("reads that answered " + -code + " are many", answers[code] > 100 ? 1 : 0, 1);
        }
        Due.is("reads that met no fault are many", answers[0] > 1000 ? 1 : 0, 1);
        Due.finish();
    }

    private void go(int[] answers) {
        boolean reader = chance(50);
        while (calls < CALLS) {
            if (reader && chance(20)) {
                feedFile();
                int answer = same("read()", x.read(), model.read());
                answers[answer < 0 ? -answer : 0]++;
                same("where()", x.where(), model.where());
                compareTrees();
            } else {
                oneCall();
            }
        }
        compareTrees();
    }

    private int same(String call, long got, long want) {
        calls++;
        Due.is(run + calls + ": " + call, got, want);
        return (int) got;
    }

    private boolean chance(int percent) {
        return random.nextInt(100) < percent;
    }

    private int upTo(int most) {
        return random.nextInt(most + 1);
    }

    private long odd() {
        return ODD[random.nextInt(ODD.length)];
    }

    private int element() {
        int size = model.nodes().size();
        return chance(4) ? (int) odd() : chance(4) ? upTo(62) - 1 : size == 0 ? -1 : random.nextInt(size);
    }

    private int element(int id) {
        int k = element();
        for (int tries = 0; tries < 200 && chance(97) && model.id(k) != id; tries++) {
            k = element();
        }
        return k;
    }

    private void oneCall() {
        switch (random.nextInt(20)) {
            case 0:
                feedOne();
                break;
            case 1:
                boolean all = chance(70);
                same("take(" + all + ")", x.take(all), model.take(all));
                break;
            case 2:
                int i = chance(10) ? (int) odd() : upTo(640);
                same("out(" + i + ")", x.out(i), model.out(i));
                break;
            case 3:
                if (chance(40)) {
                    same("read()", x.read(), model.read());
                    same("where()", x.where(), model.where());
                }
                break;
            case 4:
                if (chance(5)) {
                    x.clear();
                    model.clear();
                    calls++;
                }
                break;
            case 5: case 6: case 7: case 8: case 9:
                makeOne();
                break;
            case 10:
                letterOne();
                break;
            case 11: case 12: case 13:
                frameOrBlock();
                break;
            case 14:
                boolean live = chance(50);
                same("write(" + live + ")", x.write(live), model.write(live));
                compareOut();
                break;
            case 15:
                int k = element(Due.SEGMENT);
                same("index(" + k + ")", x.index(k), model.index(k));
                break;
            case 16: case 17:
                find();
                break;
            default:
                look(element());
                break;
        }
    }

    private void feedOne() {
        long bytes = chance(50) ? random.nextLong() : odd();
        int n = chance(10) ? (int) odd() : upTo(9);
        same("feed(" + bytes + ", " + n + ")", x.feed(bytes, n), model.feed(bytes, n));
    }

    private void makeOne() {
        int id = IDS[random.nextInt(IDS.length)];
        int parent = chance(20) ? -1 : element();
        for (int tries = 0; tries < 50 && chance(95) && !fits(id, parent); tries++) {
            id = IDS[random.nextInt(IDS.length)];
            parent = chance(20) ? -1 : element();
        }
        long value = id == Due.VOID && chance(90) ? upTo(20) : chance(50) ? upTo(300) : odd();
        same("make(" + parent + ", " + id + ", " + value + ")", x.make(parent, id, value),
                model.make(parent, id, value));
    }

    private boolean fits(int id, int parent) {
        return Model.mayStand(id, parent == -1 ? -1 : model.id(parent)) && !Model.kind(id).equals("foreign");
    }

    private void letterOne() {
        int k = element(chance(50) ? Due.TYPE : Due.NAME);
        for (int n = upTo(6); n >= 0; n--) {
            char c = (char) (chance(10) ? upTo(65535) : upTo(130));
            same("letter(" + k + ", " + (int) c + ")", x.letter(k, c), model.letter(k, c));
        }
    }

    private void frameOrBlock() {
        int n = chance(5) ? (int) odd() : chance(10) ? upTo(300) : chance(50) ? 3 : upTo(20);
        int first = chance(5) ? (int) odd() : upTo(255);
        same("frame(" + n + ", " + first + ")", x.frame(n, first), model.frame(n, first));
        if (chance(60)) {
            int k = element(Due.CLUSTER);
            int track = chance(5) ? (int) odd() : 1 + upTo(2);
            int time = chance(5) ? (int) odd() : upTo(20) - 10;
            boolean key = chance(60);
            int lacing = chance(5) ? (int) odd() : upTo(3);
            same("block(" + k + ", " + track + ", " + time + ", " + key + ", " + lacing + ")",
                    x.block(k, track, time, key, lacing), model.block(k, track, time, key, lacing));
        }
    }

    private void find() {
        int k = element(Due.SEGMENT);
        int track = chance(5) ? (int) odd() : upTo(3);
        long moment = chance(20) ? odd() : upTo(300) - 20;
        same("seek(" + k + ", " + track + ", " + moment + ")", x.seek(k, track, moment),
                model.seek(k, track, moment));
        same("jump(" + k + ", " + track + ", " + moment + ")", x.jump(k, track, moment),
                model.jump(k, track, moment));
    }

    private void look(int k) {
        int i = chance(10) ? (int) odd() : upTo(8);
        int j = chance(10) ? (int) odd() : upTo(8);
        same("id(" + k + ")", x.id(k), model.id(k));
        same("parent(" + k + ")", x.parent(k), model.parent(k));
        same("value(" + k + ")", x.value(k), model.value(k));
        same("part(" + k + ", " + i + ")", x.part(k, i), model.part(k, i));
        same("sample(" + k + ", " + j + ", " + i + ")", x.sample(k, j, i), model.sample(k, j, i));
        same("detail(" + k + ", " + i + ")", x.detail(k, i), model.detail(k, i));
    }

    /** Looking at all of a tree changes nothing; Bounded sees to it that no object is used too long. */
    private void compareTrees() {
        int before = calls;
        int size = model.nodes().size();
        for (int k = -1; k <= size; k++) {
            same("id(" + k + ")", x.id(k), model.id(k));
            same("parent(" + k + ")", x.parent(k), model.parent(k));
            same("value(" + k + ")", x.value(k), model.value(k));
            for (int i = -1; i < 17; i++) {
                same("part(" + k + ", " + i + ")", x.part(k, i), model.part(k, i));
            }
            for (int i = 0; i < 5; i++) {
                same("detail(" + k + ", " + i + ")", x.detail(k, i), model.detail(k, i));
                for (int j = 0; j < 4; j++) {
                    same("sample(" + k + ", " + i + ", " + j + ")", x.sample(k, i, j), model.sample(k, i, j));
                }
            }
        }
        calls = before;
    }

    private void compareOut() {
        int before = calls;
        for (int i = -1; i <= 640; i++) {
            same("out(" + i + ")", x.out(i), model.out(i));
        }
        calls = before;
    }

    // ---- files, mostly right ones

    private void feedFile() {
        same("take(false)", x.take(false), model.take(false));
        byte[] file = elements(-1, 6, random.nextInt(4) == 0 ? 0 : upTo(4));
        if (chance(10)) {
            file = behindVoids(50 + upTo(11), file);
        }
        for (int at = 0; at < Math.min(file.length, 640); at += 8) {
            int n = Math.min(8, Math.min(file.length, 640) - at);
            long bytes = 0;
            for (int i = 0; i < n; i++) {
                bytes = bytes << 8 | file[at + i] & 255;
            }
            same("feed(" + bytes + ", " + n + ")", x.feed(bytes, n), model.feed(bytes, n));
        }
    }

    /** So many empty VOIDs and then the file, so that it has many elements. */
    private static byte[] behindVoids(int count, byte[] file) {
        ByteArrayOutputStream bytes = new ByteArrayOutputStream();
        for (int i = 0; i < count; i++) {
            bytes.write(Due.VOID);
            bytes.write(0x80);
        }
        bytes.writeBytes(file);
        return bytes.toByteArray();
    }

    /** Some elements for a master, with so many flaws of a thousand. */
    private byte[] elements(int master, int most, int flaws) {
        ByteArrayOutputStream bytes = new ByteArrayOutputStream();
        int count = chance(3) ? 40 : upTo(most);
        byte[] first = new byte[0];
        if (Model.mayStand(Due.CHECK, master) && chance(40)) {
            first = new byte[] {(byte) 0xBF, (byte) 0x84, 0, 0, 0, 0};
        }
        for (int i = 0; i < count; i++) {
            int id = IDS[random.nextInt(IDS.length)];
            for (int tries = 0; tries < 100 && (!Model.mayStand(id, master) || id == Due.CHECK)
                    && random.nextInt(100) >= flaws; tries++) {
                id = IDS[random.nextInt(IDS.length)];
            }
            bytes.writeBytes(element(id, count > 20 ? 0 : 5, flaws));
        }
        byte[] behind = bytes.toByteArray();
        if (first.length == 0) {
            return behind;
        }
        CRC32 crc = new CRC32();
        crc.update(behind);
        for (int i = 0; i < 4; i++) {
            first[2 + i] = (byte) (crc.getValue() >> (8 * i));
        }
        bytes.reset();
        bytes.writeBytes(first);
        bytes.writeBytes(behind);
        return bytes.toByteArray();
    }

    private boolean flaw(int flaws) {
        return random.nextInt(150) < flaws;
    }

    private byte[] element(int id, int most, int flaws) {
        byte[] data = data(id, most, flaws);
        ByteArrayOutputStream bytes = new ByteArrayOutputStream();
        int length = id > 0xFFFFFF ? 4 : id > 0xFFFF ? 3 : id > 0xFF ? 2 : 1;
        for (int i = length - 1; i >= 0; i--) {
            bytes.write(id >> (8 * i));
        }
        boolean open = (id == Due.SEGMENT || id == Due.CLUSTER) && chance(40) || flaw(flaws);
        if (flaw(flaws)) {
            bytes.write(upTo(255));
        } else if (open) {
            vint(bytes, -1, chance(80) ? 1 : 1 + upTo(7));
        } else {
            vint(bytes, data.length, chance(80) ? data.length < 127 ? 1 : 2 : 2 + upTo(6));
        }
        bytes.writeBytes(data);
        byte[] all = bytes.toByteArray();
        if (flaw(flaws)) {
            all[random.nextInt(all.length)] = (byte) upTo(255);
        }
        if (flaw(flaws)) {
            return java.util.Arrays.copyOf(all, random.nextInt(all.length));
        }
        return all;
    }

    private static void vint(ByteArrayOutputStream bytes, long value, int length) {
        long mark = 1L << (7 * length);
        long all = mark | value & (mark - 1);
        for (int i = length - 1; i >= 0; i--) {
            bytes.write((int) (all >> (8 * i)));
        }
    }

    private byte[] data(int id, int most, int flaws) {
        byte[] data;
        switch (Model.kind(id)) {
            case "master":
                return elements(id, most, flaws);
            case "number":
                data = new byte[flaw(flaws) ? 9 : upTo(8)];
                random.nextBytes(data);
                return data;
            case "text":
                int letters = flaw(flaws) ? 17 : upTo(16);
                data = new byte[letters + (chance(70) ? 0 : upTo(5))];
                for (int i = 0; i < letters; i++) {
                    data[i] = (byte) (flaw(flaws) ? upTo(255) : 32 + upTo(94));
                }
                return data;
            case "block":
                return block(flaws);
            default:
                data = new byte[chance(10) ? upTo(150) : upTo(6)];
                random.nextBytes(data);
                return data;
        }
    }

    private byte[] block(int flaws) {
        ByteArrayOutputStream bytes = new ByteArrayOutputStream();
        vint(bytes, flaw(flaws) ? upTo(130) : 1 + upTo(125), chance(80) ? 1 : 1 + upTo(7));
        bytes.write(upTo(255));
        bytes.write(upTo(255));
        int lacing = upTo(3);
        bytes.write(flaw(flaws) ? upTo(255) : (chance(50) ? 128 : 0) + 2 * lacing);
        int frames = lacing == 0 ? 1 : 1 + upTo(7);
        if (lacing != 0) {
            bytes.write(flaw(flaws) ? upTo(255) : frames - 1);
        }
        int[] sizes = new int[frames];
        int even = upTo(5);
        for (int i = 0; i < frames; i++) {
            sizes[i] = lacing == 2 ? even : chance(3) ? upTo(300) : upTo(5);
        }
        for (int i = 0; i < frames - 1; i++) {
            if (lacing == 1) {
                for (int j = 0; j < sizes[i] / 255; j++) {
                    bytes.write(255);
                }
                bytes.write(flaw(flaws) ? upTo(255) : sizes[i] % 255);
            } else if (lacing == 3) {
                long told = flaw(flaws) ? odd() : i == 0 ? sizes[0] : sizes[i] - sizes[i - 1];
                int least = i == 0 ? told < 127 ? 1 : 2 : Math.abs(told) < 64 ? 1 : 2;
                int length = chance(80) ? least : Math.min(8, least + upTo(6));
                vint(bytes, i == 0 ? told : told + (1L << (7 * length - 1)) - 1, length);
            }
        }
        for (int size : sizes) {
            for (int i = 0; i < size; i++) {
                bytes.write(upTo(255));
            }
        }
        if (flaw(flaws)) {
            bytes.write(0);
        }
        return bytes.toByteArray();
    }
}
