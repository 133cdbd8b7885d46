/** An object and its Model, asked side by side; calls that come when 512 have been made are not made. */
final class Both {
    private static final int CALLS_MOST = 512;

    private final Due due;
    private final String name;
    private final SequenceFrames x = new SequenceFrames();
    private final Model m = new Model();
    private int calls;

    Both(Due due, String name) {
        this.due = due;
        this.name = name;
    }

    boolean over() {
        return calls >= CALLS_MOST;
    }

    int contentSize() {
        return m.content.length;
    }

    int framesSize() {
        return m.frames.length;
    }

    int frameByte(int i) {
        return m.frames[i];
    }

    private void same(String call, long got, long want) {
        calls++;
        due.is(name + ", call " + calls + ": " + call, got, want);
    }

    void feed(long bytes, int n) {
        if (!over()) {
            same("feed(" + bytes + ", " + n + ")", x.feed(bytes, n), m.feed(bytes, n));
        }
    }

    void fill(int b, int n) {
        if (!over()) {
            same("fill(" + b + ", " + n + ")", x.fill(b, n), m.fill(b, n));
        }
    }

    void again(int distance, int n) {
        if (!over()) {
            same("again(" + distance + ", " + n + ")", x.again(distance, n), m.again(distance, n));
        }
    }

    void mix(int seed, int n) {
        if (!over()) {
            same("mix(" + seed + ", " + n + ")", x.mix(seed, n), m.mix(seed, n));
        }
    }

    void change(int i, int b) {
        if (!over()) {
            same("change(" + i + ", " + b + ")", x.change(i, b), m.change(i, b));
        }
    }

    void keep(int n) {
        if (!over()) {
            same("keep(" + n + ")", x.keep(n), m.keep(n));
        }
    }

    void option(int what, int v) {
        if (!over()) {
            same("option(" + what + ", " + v + ")", x.option(what, v), m.option(what, v));
        }
    }

    void pack() {
        if (!over()) {
            same("pack()", x.pack(), m.pack());
        }
    }

    void skip(int kind, int n, int b) {
        if (!over()) {
            same("skip(" + kind + ", " + n + ", " + b + ")", x.skip(kind, n, b), m.skip(kind, n, b));
        }
    }

    void give(long bytes, int n) {
        if (!over()) {
            same("give(" + bytes + ", " + n + ")", x.give(bytes, n), m.give(bytes, n));
        }
    }

    void alter(int i, int b) {
        if (!over()) {
            same("alter(" + i + ", " + b + ")", x.alter(i, b), m.alter(i, b));
        }
    }

    void cut(int n) {
        if (!over()) {
            same("cut(" + n + ")", x.cut(n), m.cut(n));
        }
    }

    void read() {
        if (!over()) {
            same("read()", x.read(), m.read());
        }
    }

    void place() {
        if (!over()) {
            same("place()", x.place(), m.place());
        }
    }

    void count(int what) {
        if (!over()) {
            same("count(" + what + ")", x.count(what), m.count(what));
        }
    }

    void sequence(int i, int what) {
        if (!over()) {
            same("sequence(" + i + ", " + what + ")", x.sequence(i, what), m.sequence(i, what));
        }
    }

    void hashOfAll(int row) {
        if (!over()) {
            int n = m.count(row);
            same("hash(" + row + ", 0, " + n + ", 0)", x.hash(row, 0, n, 0), m.hash(row, 0, n, 0));
        }
    }

    void differs() {
        if (!over()) {
            same("differs()", x.differs(), m.differs());
        }
    }

    /** Asks of the last sequence that was found all that is told of it: 5 calls. */
    void lastSequence() {
        int last = m.count(3) - 1;
        for (int what = 0; what <= 4; what++) {
            sequence(last, what);
        }
    }
}
