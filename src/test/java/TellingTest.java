import java.nio.charset.StandardCharsets;

/** Promises 16 to 20: telling. */
public final class TellingTest {
    private static final Due DUE = new Due();

    public static void main(String[] args) {
        count();
        octet();
        sequence();
        knownHashes();
        hash();
        differs();
        DUE.end();
    }

    private static void countsAre(SequenceFrames x, String when, int... want) {
        for (int what = 0; what < want.length; what++) {
            DUE.is(when + ", count(" + what + ")", x.count(what), want[what]);
        }
    }

    private static void count() {
        SequenceFrames x = new SequenceFrames();
        x.fill(97, 29);
        x.option(5, 13);
        countsAre(x, "filled", 29, 0, 0, 0, 0, 0, 0, 0, 0);
        x.pack();
        int size = 7 + 14 + 14 + 7 + 4;
        countsAre(x, "packed", 29, size, 0, 5, 3, 1, 14, 0, 0);
        x.skip(1, 2, 3);
        countsAre(x, "skipped", 29, size + 10, 0, 5, 3, 1, 14, 0, 0);
        x.read();
        countsAre(x, "read", 29, size + 10, 29, 5, 3, 1, 14, 2, 3);
        x.give(1, 1);
        DUE.is("read() with a fault", x.read(), -11);
        countsAre(x, "read with a fault", 29, size + 11, 29, 5, 3, 1, 14, 2, 3);
        x.keep(0);
        x.cut(0);
        countsAre(x, "empty", 0, 0, 29, 5, 3, 1, 14, 2, 3);
        x.pack();
        countsAre(x, "packed empty", 0, 11, 29, 0, 0, 0, 0, 2, 3);
        x.read();
        countsAre(x, "read empty", 0, 11, 0, 0, 0, 0, 0, 1, 0);
        for (int what : new int[] {-1, 9, Integer.MIN_VALUE, Integer.MAX_VALUE}) {
            DUE.is("count(" + what + ")", x.count(what), -1);
        }
    }

    private static void octet() {
        SequenceFrames x = new SequenceFrames();
        for (int row = 0; row < 3; row++) {
            DUE.is("octet of an empty row", x.octet(row, 0), -1);
        }
        x.feed(0xFE03, 2);
        x.pack();
        x.read();
        x.change(0, 1);
        DUE.is("octet(0, 0)", x.octet(0, 0), 1);
        DUE.is("octet(0, 1)", x.octet(0, 1), 3);
        DUE.is("octet(1, 3)", x.octet(1, 3), 24);
        DUE.is("octet(1, 10)", x.octet(1, 10), 128);
        DUE.is("octet(1, 16)", x.octet(1, 16), 0);
        DUE.is("octet(1, 17)", x.octet(1, 17), -1);
        DUE.is("octet(2, 0)", x.octet(2, 0), 254);
        DUE.is("octet(2, 1)", x.octet(2, 1), 3);
        int[][] wrong = {{0, 2}, {0, -1}, {2, 2}, {2, -1}, {1, -1}, {3, 0}, {-1, 0}, {0, Integer.MIN_VALUE},
            {1, Integer.MAX_VALUE}, {Integer.MIN_VALUE, 0}, {Integer.MAX_VALUE, 0}};
        for (int[] w : wrong) {
            DUE.is("octet(" + w[0] + ", " + w[1] + ")", x.octet(w[0], w[1]), -1);
        }
    }

    private static void sequence() {
        SequenceFrames x = new SequenceFrames();
        DUE.is("sequence before pack()", x.sequence(0, 0), -1);
        x.fill(97, 26);
        x.option(5, 13);
        x.pack();
        int[] want = {0, 0, 1, 1, 7, 0, 8, 5, 0, 0, 1, 13, 1, 1, 7, 1, 21, 5, 0, 0};
        for (int i = 0; i < want.length; i++) {
            DUE.is("sequence(" + i / 5 + ", " + i % 5 + ")", x.sequence(i / 5, i % 5), want[i]);
        }
        x.keep(0);
        x.cut(0);
        x.option(5, 1);
        for (int i = 0; i < want.length; i++) {
            DUE.is("still sequence(" + i / 5 + ", " + i % 5 + ")", x.sequence(i / 5, i % 5), want[i]);
        }
        int[][] wrong = {{4, 0}, {-1, 0}, {0, 5}, {0, -1}, {Integer.MIN_VALUE, 0}, {Integer.MAX_VALUE, 0},
            {0, Integer.MIN_VALUE}, {0, Integer.MAX_VALUE}, {140000, 1}, {140001, 1}, {139999, 4}};
        for (int[] w : wrong) {
            DUE.is("sequence(" + w[0] + ", " + w[1] + ")", x.sequence(w[0], w[1]), -1);
        }
        x.fill(3, 70000);
        x.fill(4, 70000);
        DUE.is("as many sequences as can be", x.pack(), -2);
        DUE.is("count(3)", x.count(3), 140000);
        DUE.is("count(4)", x.count(4), 140000);
        DUE.is("count(5)", x.count(5), 140000);
        int[] last = {139999, 139999, 1, 0, 0};
        for (int what = 0; what < 5; what++) {
            DUE.is("last sequence, " + what, x.sequence(139999, what), last[what]);
            DUE.is("behind the last, " + what, x.sequence(140000, what), -1);
        }
        x.keep(0);
        x.pack();
        DUE.is("sequence of an empty pack()", x.sequence(0, 0), -1);
    }

    private static SequenceFrames fed(String text) {
        SequenceFrames x = new SequenceFrames();
        for (byte b : text.getBytes(StandardCharsets.ISO_8859_1)) {
            x.feed(b, 1);
        }
        return x;
    }

    /** Hashes that are known of XXH32, which THE HASH is. */
    private static void knownHashes() {
        DUE.is("hash of nothing", fed("").hash(0, 0, 0, 0), 0x02CC5D05L);
        DUE.is("hash of a", fed("a").hash(0, 0, 1, 0), 0x550D7456L);
        DUE.is("hash of abc", fed("abc").hash(0, 0, 3, 0), 0x32D153FFL);
        String text = "Nobody inspects the spammish repetition";
        DUE.is("hash of 39 bytes", fed(text).hash(0, 0, text.length(), 0), 0xE2293B2FL);
        DUE.is("hash of nothing, seeded", fed("").hash(1, 0, 0, (int) 2654435761L), 0x36B78AE7L);
    }

    private static void hash() {
        SequenceFrames x = new SequenceFrames();
        Model m = new Model();
        x.mix(5, 100);
        m.mix(5, 100);
        int[] seeds = {0, 1, -1, Integer.MIN_VALUE, (int) 2654435761L};
        for (int n = 0; n <= 70; n++) {
            int seed = seeds[n % seeds.length];
            DUE.is("hash of " + n, x.hash(0, n % 7, n, seed), m.hash(0, n % 7, n, seed));
        }
        x.pack();
        x.read();
        x.keep(0);
        DUE.is("hash of OUTPUT", x.hash(2, 0, 100, 7), m.hash(0, 0, 100, 7));
        DUE.is("hash of FRAMES", x.hash(1, 11, 100, 7), m.hash(0, 0, 100, 7));
        DUE.is("hash at the end", x.hash(2, 100, 0, 0), 0x02CC5D05L);
        int[][] wrong = {{2, -1, 1}, {2, 0, -1}, {2, 0, 101}, {2, 100, 1}, {2, 101, 0}, {2, 101, -1}, {0, 0, 1}, {3, 0, 0},
            {-1, 0, 0}, {2, Integer.MAX_VALUE, Integer.MAX_VALUE}, {2, Integer.MAX_VALUE, 1}, {2, 1, Integer.MAX_VALUE},
            {2, Integer.MIN_VALUE, Integer.MIN_VALUE}, {2, Integer.MIN_VALUE, Integer.MAX_VALUE}, {Integer.MAX_VALUE, 0, 0}};
        for (int[] w : wrong) {
            DUE.is("hash(" + w[0] + ", " + w[1] + ", " + w[2] + ")", x.hash(w[0], w[1], w[2], 0), -1);
        }
    }

    private static void differs() {
        SequenceFrames x = new SequenceFrames();
        DUE.is("both empty", x.differs(), -1);
        x.feed(0x010203, 3);
        DUE.is("OUTPUT empty", x.differs(), 0);
        x.pack();
        x.read();
        DUE.is("the same", x.differs(), -1);
        x.feed(4, 1);
        DUE.is("CONTENT longer", x.differs(), 3);
        x.keep(2);
        DUE.is("CONTENT shorter", x.differs(), 2);
        x.change(1, 9);
        DUE.is("another byte", x.differs(), 1);
        x.keep(0);
        DUE.is("CONTENT empty", x.differs(), 0);
    }
}
