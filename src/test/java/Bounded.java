import java.util.ArrayList;
import java.util.List;

/**
 * An ElementFiles of which no more is asked than is promised: an object is used for 512 calls, and what
 * later calls answer is free. When a test looks at more than that, a new object is brought to the same
 * state by the same calls, and is looked at instead.
 */
final class Bounded {
    private static final int MOST_CALLS = 512;

    private final List<Call> changes = new ArrayList<>();
    private ElementFiles object = new ElementFiles();
    private int calls;

    private interface Call {
        long on(ElementFiles object);
    }

    /** A call that may change the object, and so is called again on each new one. */
    private long change(Call call) {
        renewWhenUsedUp();
        changes.add(call);
        calls++;
        return call.on(object);
    }

    private long look(Call call) {
        renewWhenUsedUp();
        calls++;
        return call.on(object);
    }

    private void renewWhenUsedUp() {
        if (calls < MOST_CALLS) {
            return;
        }
        if (changes.size() >= MOST_CALLS) {
            throw new IllegalStateException("the test calls what changes an object more than 511 times");
        }
        object = new ElementFiles();
        for (Call call : changes) {
            call.on(object);
        }
        calls = changes.size();
    }

    int feed(long bytes, int n) {
        return (int) change(x -> x.feed(bytes, n));
    }

    int take(boolean all) {
        return (int) change(x -> x.take(all));
    }

    int out(int i) {
        return (int) look(x -> x.out(i));
    }

    int read() {
        return (int) change(x -> x.read());
    }

    int where() {
        return (int) look(x -> x.where());
    }

    void clear() {
        change(x -> {
            x.clear();
            return 0;
        });
    }

    int make(int parent, int id, long value) {
        return (int) change(x -> x.make(parent, id, value));
    }

    int letter(int k, char c) {
        return (int) change(x -> x.letter(k, c));
    }

    int frame(int n, int first) {
        return (int) change(x -> x.frame(n, first));
    }

    int block(int parent, int track, int time, boolean key, int lacing) {
        return (int) change(x -> x.block(parent, track, time, key, lacing));
    }

    int id(int k) {
        return (int) look(x -> x.id(k));
    }

    int parent(int k) {
        return (int) look(x -> x.parent(k));
    }

    long value(int k) {
        return look(x -> x.value(k));
    }

    int part(int k, int i) {
        return (int) look(x -> x.part(k, i));
    }

    int sample(int k, int j, int i) {
        return (int) look(x -> x.sample(k, j, i));
    }

    int detail(int k, int what) {
        return (int) look(x -> x.detail(k, what));
    }

    int write(boolean live) {
        return (int) change(x -> x.write(live));
    }

    int index(int k) {
        return (int) change(x -> x.index(k));
    }

    int seek(int k, int track, long moment) {
        return (int) look(x -> x.seek(k, track, moment));
    }

    int jump(int k, int track, long moment) {
        return (int) look(x -> x.jump(k, track, moment));
    }
}
