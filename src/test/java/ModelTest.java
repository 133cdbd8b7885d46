import java.util.Random;

/** Many runs of at most 512 calls by fixed seeds: each answer is compared with the Model's. */
public final class ModelTest {
    private static final Due DUE = new Due();
    private static final int RUNS = 1500;
    private static final int LEAST_OF_EACH_FAULT = 10;
    /** A round is of at most some 165 calls, so that a run keeps within 512. */
    private static final int CALLS_BEFORE_LAST_ROUND = 340;

    private final Random random;
    private final SequenceFrames x = new SequenceFrames();
    private final Model m = new Model();
    private final int run;
    private final int[] faults;
    private int calls;

    private ModelTest(int run, int[] faults) {
        this.run = run;
        this.faults = faults;
        random = new Random(run);
    }

    public static void main(String[] args) {
        int[] faults = new int[12];
        for (int run = 0; run < RUNS; run++) {
            new ModelTest(run, faults).go();
        }
        for (int fault = 1; fault <= 11; fault++) {
            DUE.holds("fault " + fault + " was met often enough: " + faults[fault], faults[fault] >= LEAST_OF_EACH_FAULT);
        }
        DUE.end();
    }

    private void same(String call, long got, long want) {
        calls++;
        DUE.is("run " + run + ", call " + calls + ": " + call, got, want);
    }

    private int below(int n) {
        return random.nextInt(n);
    }

    private void go() {
        boolean large = run % 50 == 0;
        while (calls < CALLS_BEFORE_LAST_ROUND) {
            switch (below(8)) {
                case 0, 1, 2 -> grow(large);
                case 3 -> option();
                case 4 -> pack();
                case 5 -> frameByHand();
                case 6 -> harm();
                default -> shrink();
            }
            if (below(3) == 0) {
                read();
                tell();
            }
        }
    }

    private void grow(boolean large) {
        int n = large ? below(70000) : below(4) == 0 ? below(2000) : below(40);
        int v = below(4) == 0 ? random.nextInt() : below(3);
        switch (below(4)) {
            case 0 -> {
                long bytes = random.nextLong();
                int k = below(11) - 1;
                same("feed(" + bytes + ", " + k + ")", x.feed(bytes, k), m.feed(bytes, k));
            }
            case 1 -> same("fill(" + v + ", " + n + ")", x.fill(v, n), m.fill(v, n));
            case 2 -> {
                int d = below(10) == 0 ? random.nextInt() : 1 + below(Math.max(1, m.content.length));
                same("again(" + d + ", " + n + ")", x.again(d, n), m.again(d, n));
            }
            default -> same("mix(" + v + ", " + n + ")", x.mix(v, n), m.mix(v, n));
        }
    }

    private void option() {
        int what = below(8) - 1;
        int v = what == 4 ? 3 + below(6) : what == 5 ? below(3) == 0 ? below(70000) : below(100) : below(3);
        same("option(" + what + ", " + v + ")", x.option(what, v), m.option(what, v));
    }

    private void pack() {
        same("pack()", x.pack(), m.pack());
        for (int i = 0; i < 8; i++) {
            int k = below(Math.max(1, m.count(3) + 2)) - 1;
            int what = below(7) - 1;
            same("sequence(" + k + ", " + what + ")", x.sequence(k, what), m.sequence(k, what));
        }
    }

    /** A frame of sequences by chance, its HC right: most of its blocks are broken in some way. */
    private void frameByHand() {
        int flg = 64 + 4 * below(16) & ~(below(3) == 0 ? 0 : 16);
        Bytes frame = new Bytes().head(flg, 16 * (4 + below(4)), below(40));
        int blocks = below(3);
        for (int i = 0; i < blocks; i++) {
            Bytes block = blockByHand();
            if (below(5) == 0) {
                frame.raw(block);
            } else {
                frame.block(block);
            }
            if ((flg & 16) != 0) {
                frame.check(block);
            }
        }
        frame.zeros();
        if ((flg & 4) != 0) {
            frame.number(random.nextInt(), 4);
        }
        for (int i = 0; i < frame.size(); i++) {
            int b = frame.at(i);
            if (i + 8 <= frame.size()) {
                long v = 0;
                for (int k = 0; k < 8; k++) {
                    v = v << 8 | frame.at(i + k);
                }
                same("give(" + v + ", 8)", x.give(v, 8), m.give(v, 8));
                i += 7;
            } else {
                same("give(" + b + ", 1)", x.give(b, 1), m.give(b, 1));
            }
        }
    }

    private Bytes blockByHand() {
        Bytes block = new Bytes();
        int size = 0;
        int sequences = below(3);
        for (int i = 0; i < sequences; i++) {
            int literals = below(6);
            int match = below(3) == 0 ? 15 : below(15);
            block.add(literals << 4 | match);
            size += literals;
            for (int k = 0; k < literals; k++) {
                block.add(below(256));
            }
            int offset = below(12) == 0 ? below(30) : 1 + below(Math.max(1, size));
            block.number(offset, 2);
            if (match == 15) {
                int much = below(8) == 0 ? 256 + below(4) : 0;
                block.run(255, much).add(below(255));
            }
            size += match + 4;
        }
        int last = below(4) == 0 ? below(16) : 5 + below(8);
        block.add(last << 4 | (below(15) == 0 ? 1 : 0));
        for (int k = 0; k < last; k++) {
            block.add(below(256));
        }
        return block;
    }

    private void harm() {
        switch (below(4)) {
            case 0 -> {
                int i = below(m.frames.length + 2) - 1;
                int b = random.nextInt();
                same("alter(" + i + ", " + b + ")", x.alter(i, b), m.alter(i, b));
            }
            case 1 -> {
                int i = below(m.content.length + 2) - 1;
                int b = random.nextInt();
                same("change(" + i + ", " + b + ")", x.change(i, b), m.change(i, b));
            }
            case 2 -> {
                int kind = below(18) - 1;
                int n = below(6) == 0 ? below(1003) - 1 : below(10);
                same("skip(" + kind + ", " + n + ")", x.skip(kind, n, run), m.skip(kind, n, run));
            }
            default -> {
                int back = below(20);
                same("cut", x.cut(m.frames.length - back), m.cut(m.frames.length - back));
            }
        }
    }

    private void shrink() {
        if (below(2) == 0) {
            int n = below(m.content.length + 2) - below(2);
            same("keep(" + n + ")", x.keep(n), m.keep(n));
        } else {
            int n = below(3) == 0 ? below(m.frames.length + 2) - below(2) : 0;
            same("cut(" + n + ")", x.cut(n), m.cut(n));
        }
    }

    private void read() {
        int want = m.read();
        if (want < 0) {
            faults[-10 - want]++;
        }
        same("read()", x.read(), want);
        same("place()", x.place(), m.place());
        if (want < 0 && below(2) == 0) {
            same("cut(0)", x.cut(0), m.cut(0));
        }
    }

    private void tell() {
        for (int what = -1; what <= 9; what++) {
            same("count(" + what + ")", x.count(what), m.count(what));
        }
        same("differs()", x.differs(), m.differs());
        for (int row = 0; row < 3; row++) {
            int n = m.count(row);
            int from = below(n + 1);
            int seed = random.nextInt();
            same("hash of row " + row, x.hash(row, 0, n, 0), m.hash(row, 0, n, 0));
            same("hash of row " + row, x.hash(row, from, n - from, seed), m.hash(row, from, n - from, seed));
            same("octet of row " + row, x.octet(row, from), m.octet(row, from));
        }
    }
}
