/** The edges of promises 8 and 10, sentence by sentence: options and skipped frames. */
public final class OptionEdgesTest {
    private static final Due DUE = new Due();
    private static final int[] LEAST = {0, 0, 0, 0, 4, 1};
    private static final int[] MOST = {1, 1, 1, 1, 7, 65536};
    private static final int[] AT_FIRST = {0, 0, 0, 0, 4, 65536};

    public static void main(String[] args) {
        eachValuesLeastAndMost();
        oneBelowAndOneAboveAreNone();
        noneForOthers();
        anOptionIsForFromNowOn();
        oneOptionLeavesTheOthers();
        skipWritesAFrame();
        skipIsNoneWhenKindIsNot0To15();
        skipIsNoneWhenNIsNot0To1000();
        skipIsFull();
        skipOfLargeBytes();
        DUE.end();
    }

    // ---- 8: option

    private static void eachValuesLeastAndMost() {
        for (int what = 0; what <= 5; what++) {
            SequenceFrames x = new SequenceFrames();
            String name = "option(" + what + ", ";
            DUE.is(name + MOST[what] + "), what it was at first", x.option(what, MOST[what]), AT_FIRST[what]);
            DUE.is(name + LEAST[what] + "), what it was", x.option(what, LEAST[what]), MOST[what]);
            DUE.is(name + LEAST[what] + ") again", x.option(what, LEAST[what]), LEAST[what]);
            DUE.is(name + MOST[what] + ")", x.option(what, MOST[what]), LEAST[what]);
        }
        SequenceFrames x = new SequenceFrames();
        int before = 4;
        for (int code : new int[] {5, 6, 7, 6, 5, 4}) {
            DUE.is("option(4, " + code + ")", x.option(4, code), before);
            before = code;
        }
        before = 65536;
        for (int part : new int[] {2, 65535, 255, 256, 32768, 65536, 1}) {
            DUE.is("option(5, " + part + ")", x.option(5, part), before);
            before = part;
        }
    }

    private static void oneBelowAndOneAboveAreNone() {
        for (int what = 0; what <= 5; what++) {
            int[] wrong = {LEAST[what] - 1, MOST[what] + 1, -1, -LEAST[what] - 1, LEAST[what] + 65536 * 2, MOST[what] + (1 << 20),
                Integer.MIN_VALUE, Integer.MAX_VALUE};
            for (int v : wrong) {
                int w = what;
                String call = "option(" + what + ", " + v + ")";
                DUE.refused("new, " + call, new SequenceFrames(), x -> x.option(w, v), -1);
                DUE.refused("used, " + call, Made.used(), x -> x.option(w, v), -1);
            }
        }
        DUE.is("PART 0 is none", new SequenceFrames().option(5, 0), -1);
        DUE.is("PART 65537 is none", new SequenceFrames().option(5, 65537), -1);
        DUE.is("CODE 3 is none", new SequenceFrames().option(4, 3), -1);
        DUE.is("CODE 8 is none", new SequenceFrames().option(4, 8), -1);
    }

    private static void noneForOthers() {
        for (int what : new int[] {-1, 6, 7, 256, -6, Integer.MIN_VALUE, Integer.MAX_VALUE}) {
            for (int v : new int[] {0, 1, 4, 7, 65536}) {
                String call = "option(" + what + ", " + v + ")";
                DUE.refused(call, Made.used(), x -> x.option(what, v), -1);
            }
        }
    }

    /** FRAMES that stand, and what the latest pack() found, are not changed by an option; the next pack() is. */
    private static void anOptionIsForFromNowOn() {
        SequenceFrames x = new SequenceFrames();
        x.fill(97, 39);
        x.option(5, 13);
        x.pack();
        long hash = x.hash(1, 0, x.count(1), 0);
        int size = x.count(1);
        int[] others = {1, 1, 1, 1, 7, 20};
        for (int what = 0; what <= 5; what++) {
            x.option(what, others[what]);
        }
        DUE.is("FRAMES as they were", x.hash(1, 0, size, 0), hash);
        DUE.is("blocks as they were", x.count(4), 3);
        DUE.is("the last sequence's block as it was", x.sequence(5, 0), 2);
        DUE.is("the last sequence's place as it was", x.sequence(5, 1), 34);
        x.cut(0);
        x.pack();
        DUE.is("FLG of the next", x.octet(1, 4), 64 + 16 + 8 + 4);
        DUE.is("BD of the next", x.octet(1, 5), 112);
        DUE.is("blocks of the next", x.count(4), 2);
        DUE.is("read() of the next", x.read(), 39);
    }

    private static void oneOptionLeavesTheOthers() {
        int[] other = {1, 1, 1, 1, 5, 77};
        for (int what = 0; what <= 5; what++) {
            SequenceFrames x = new SequenceFrames();
            x.option(what, other[what]);
            StringBuilder want = new StringBuilder();
            for (int i = 0; i <= 5; i++) {
                want.append(' ').append(i == what ? other[i] : AT_FIRST[i]);
            }
            DUE.same("options after option(" + what + ", " + other[what] + ")", Told.options(x), want.toString());
        }
    }

    // ---- 10: skip

    private static void skipped(String call, SequenceFrames x, int from, int kind, int n, int b) {
        Bytes want = new Bytes().add(80 + kind, 42, 77, 24).number(n, 4).run(b, n);
        DUE.is(call + ", count(1)", x.count(1), from + want.size());
        for (int i = 0; i < 8; i++) {
            DUE.is(call + ", octet(1, " + (from + i) + ")", x.octet(1, from + i), want.at(i));
        }
        DUE.is(call + ", hash", x.hash(1, from, want.size(), 0), Model.hashOf(want.toArray(), 0));
    }

    private static void skipWritesAFrame() {
        for (int kind = 0; kind <= 15; kind++) {
            SequenceFrames x = new SequenceFrames();
            x.give(9, 1);
            DUE.is("skip(" + kind + ", 3, 5)", x.skip(kind, 3, 5), 12);
            skipped("skip(" + kind + ", 3, 5)", x, 1, kind, 3, 5);
        }
        for (int n : new int[] {0, 1, 2, 255, 256, 257, 999, 1000}) {
            SequenceFrames x = new SequenceFrames();
            DUE.is("skip(7, " + n + ", 6)", x.skip(7, n, 6), 8 + n);
            skipped("skip(7, " + n + ", 6)", x, 0, 7, n, 6);
            DUE.is("skip(7, " + n + ", 6), read()", x.read(), 0);
            DUE.is("skip(7, " + n + ", 6), frames read", x.count(7), 1);
        }
    }

    private static void skipIsNoneWhenKindIsNot0To15() {
        for (int kind : new int[] {-1, 16, 17, 80, 95, 256, -16, Integer.MIN_VALUE, Integer.MAX_VALUE}) {
            DUE.refused("new, skip(" + kind + ", 1, 2)", new SequenceFrames(), x -> x.skip(kind, 1, 2), -1);
            DUE.refused("used, skip(" + kind + ", 1, 2)", Made.used(), x -> x.skip(kind, 1, 2), -1);
        }
        DUE.refused("skip(16, 1000, 2), no room", Made.withFrames(150000), x -> x.skip(16, 1000, 2), -1);
    }

    private static void skipIsNoneWhenNIsNot0To1000() {
        for (int n : new int[] {-1, 1001, 1002, -1000, 65536, Integer.MIN_VALUE, Integer.MAX_VALUE, Integer.MAX_VALUE - 7}) {
            DUE.refused("new, skip(3, " + n + ", 2)", new SequenceFrames(), x -> x.skip(3, n, 2), -1);
            DUE.refused("used, skip(3, " + n + ", 2)", Made.used(), x -> x.skip(3, n, 2), -1);
        }
        DUE.refused("skip(3, 1001, 2), no room", Made.withFrames(150000), x -> x.skip(3, 1001, 2), -1);
        DUE.refused("skip(3, -1, 2), no room", Made.withFrames(150000), x -> x.skip(3, -1, 2), -1);
    }

    private static void skipIsFull() {
        for (int n : new int[] {0, 1, 500, 1000}) {
            SequenceFrames x = Made.withFrames(150000 - 8 - n + 1);
            DUE.refused("skip(3, " + n + ", 2) into one too little", x, y -> y.skip(3, n, 2), -2);
            x.cut(150000 - 8 - n);
            DUE.is("skip(3, " + n + ", 2) into just the room", x.skip(3, n, 2), 150000);
            skipped("skip(3, " + n + ", 2) into just the room", x, 150000 - 8 - n, 3, n, 2);
        }
        DUE.refused("skip(3, 0, 2) into 7", Made.withFrames(149993), x -> x.skip(3, 0, 2), -2);
        DUE.refused("skip(3, 0, 2) into none", Made.withFrames(150000), x -> x.skip(3, 0, 2), -2);
    }

    private static void skipOfLargeBytes() {
        for (int b : new int[] {0, 128, 255, 256, 257, -1, -2, Integer.MIN_VALUE, Integer.MAX_VALUE}) {
            SequenceFrames x = new SequenceFrames();
            x.skip(1, 2, b);
            DUE.is("skip(1, 2, " + b + "), its first", x.octet(1, 8), b & 255);
            DUE.is("skip(1, 2, " + b + "), its last", x.octet(1, 9), b & 255);
            DUE.is("skip(1, 2, " + b + "), behind it", x.octet(1, 10), -1);
        }
    }
}
