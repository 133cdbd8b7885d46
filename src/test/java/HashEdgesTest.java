import java.util.Arrays;

/** The edges of promise 19 and of THE HASH, sentence by sentence. */
public final class HashEdgesTest {
    private static final Due DUE = new Due();
    private static final int P1 = (int) 2654435761L;
    private static final int LEAST = Integer.MIN_VALUE;
    private static final int MOST = Integer.MAX_VALUE;

    public static void main(String[] args) {
        knownHashes();
        everyLength();
        wordsRunOver();
        ofEachRowFromOneOn();
        upTo2To32();
        noneBelow0();
        noneAboveHowManyItHas();
        noneWhenThereIsNoSuchRow();
        ofNoBytes();
        ofAllBytes();
        DUE.end();
    }

    /** The numbers that xxHash's own test has for XXH32: bytes by a generator, two seeds. */
    private static void knownHashes() {
        SequenceFrames x = new SequenceFrames();
        int word = P1;
        for (int i = 0; i < 101; i++) {
            x.feed(word >>> 24, 1);
            word *= word;
        }
        DUE.is("0 bytes", x.hash(0, 0, 0, 0), 0x02CC5D05L);
        DUE.is("0 bytes, seed P1", x.hash(0, 0, 0, P1), 0x36B78AE7L);
        DUE.is("1 byte", x.hash(0, 0, 1, 0), 0xB85CBEE5L);
        DUE.is("1 byte, seed P1", x.hash(0, 0, 1, P1), 0xD5845D64L);
        DUE.is("14 bytes", x.hash(0, 0, 14, 0), 0xE5AA0AB4L);
        DUE.is("14 bytes, seed P1", x.hash(0, 0, 14, P1), 0x4481951DL);
        DUE.is("101 bytes", x.hash(0, 0, 101, 0), 0x1F1AA412L);
        DUE.is("101 bytes, seed P1", x.hash(0, 0, 101, P1), 0x498EC8E2L);
    }

    private static int[] part(int[] row, int from, int n) {
        return Arrays.copyOfRange(row, from, from + n);
    }

    /** 16 or more, or less; words of what is left, and bytes then left: each number of them. */
    private static void everyLength() {
        for (int seed : new int[] {0, 1, -1, LEAST, MOST, P1}) {
            SequenceFrames x = new SequenceFrames();
            Model m = new Model();
            x.mix(11, 100);
            m.mix(11, 100);
            for (int n = 0; n <= 70; n++) {
                DUE.is("hash(0, 0, " + n + ", " + seed + ")", x.hash(0, 0, n, seed), Model.hashOf(part(m.content, 0, n), seed));
                DUE.is("hash(0, " + n % 30 + ", " + n + ", " + seed + ")", x.hash(0, n % 30, n, seed),
                    Model.hashOf(part(m.content, n % 30, n), seed));
            }
        }
    }

    /** Bytes of 255 and of 128: words whose highest bit is 1, sums and products above 32 bits. */
    private static void wordsRunOver() {
        for (int b : new int[] {0, 127, 128, 255}) {
            SequenceFrames x = new SequenceFrames();
            x.fill(b, 64);
            for (int n = 0; n <= 64; n++) {
                int seed = n * 0x11111111;
                DUE.is(n + " bytes " + b, x.hash(0, 0, n, seed), Model.hashOf(new Bytes().run(b, n).toArray(), seed));
            }
        }
    }

    private static void ofEachRowFromOneOn() {
        SequenceFrames x = new SequenceFrames();
        x.mix(12, 50);
        x.pack();
        x.read();
        x.change(20, x.octet(0, 20) + 1);
        for (int row = 0; row <= 2; row++) {
            int n = x.count(row);
            int[] bytes = new int[n];
            for (int i = 0; i < n; i++) {
                bytes[i] = x.octet(row, i);
            }
            for (int from = 0; from <= n; from += 7) {
                DUE.is("hash(" + row + ", " + from + ", the rest)", x.hash(row, from, n - from, 3),
                    Model.hashOf(part(bytes, from, n - from), 3));
            }
            DUE.is("hash of the last byte of row " + row, x.hash(row, n - 1, 1, 3), Model.hashOf(part(bytes, n - 1, 1), 3));
        }
        DUE.holds("rows are not the same", x.hash(0, 0, 50, 0) != x.hash(2, 0, 50, 0));
    }

    /** 0 .. 2^32 - 1: never below 0, though half of them have the highest bit. */
    private static void upTo2To32() {
        SequenceFrames x = new SequenceFrames();
        x.mix(13, 50);
        int high = 0;
        for (int n = 0; n <= 50; n++) {
            long hash = x.hash(0, 0, n, n);
            DUE.holds("hash of " + n + " is 0 .. 2^32 - 1: " + hash, hash >= 0 && hash < 1L << 32);
            high += hash >= 1L << 31 ? 1 : 0;
        }
        DUE.holds("some have the highest bit: " + high, high > 10 && high < 40);
    }

    private static void none(int row, int from, int n) {
        String call = "hash(" + row + ", " + from + ", " + n + ", 0)";
        DUE.refused("used, " + call, Made.used(), x -> x.hash(row, from, n, 0), -1);
        DUE.is("seeded, " + call, Made.used().hash(row, from, n, -7), -1);
    }

    private static void noneBelow0() {
        for (int row = 0; row <= 2; row++) {
            for (int wrong : new int[] {-1, -2, -100, LEAST, LEAST + 1}) {
                none(row, wrong, 0);
                none(row, wrong, 1);
                none(row, wrong, -wrong);
                none(row, 0, wrong);
                none(row, 1, wrong);
                none(row, 100, wrong);
                none(row, wrong, wrong);
            }
        }
    }

    private static void noneAboveHowManyItHas() {
        for (int row = 0; row <= 2; row++) {
            int size = Made.used().count(row);
            none(row, 0, size + 1);
            none(row, 1, size);
            none(row, size, 1);
            none(row, size + 1, 0);
            none(row, size - 1, 2);
            none(row, size + 1, -1);
            none(row, MOST, 0);
            none(row, 0, MOST);
            none(row, MOST, MOST);
            none(row, MOST, 1);
            none(row, 1, MOST);
            none(row, MOST, 2);
            none(row, MOST - size + 1, MOST);
            DUE.holds("all of row " + row, Made.used().hash(row, 0, size, 0) >= 0);
            DUE.holds("the last byte of row " + row, Made.used().hash(row, size - 1, 1, 0) >= 0);
            DUE.is("new, hash(" + row + ", 0, 1, 0)", new SequenceFrames().hash(row, 0, 1, 0), -1);
            DUE.is("new, hash(" + row + ", 1, 0, 0)", new SequenceFrames().hash(row, 1, 0, 0), -1);
        }
        SequenceFrames x = Made.used();
        x.keep(30);
        DUE.is("31 of 30 that were 100", x.hash(0, 0, 31, 0), -1);
        x.cut(30);
        DUE.is("31 of 30 FRAMES", x.hash(1, 0, 31, 0), -1);
    }

    private static void noneWhenThereIsNoSuchRow() {
        for (int row : new int[] {-1, 3, 4, 256, LEAST, MOST}) {
            none(row, 0, 0);
            none(row, 0, 1);
            DUE.is("new, hash(" + row + ", 0, 0, 0)", new SequenceFrames().hash(row, 0, 0, 0), -1);
        }
    }

    private static void ofNoBytes() {
        for (int row = 0; row <= 2; row++) {
            DUE.is("new, hash of none of row " + row, new SequenceFrames().hash(row, 0, 0, 0), 0x02CC5D05L);
            SequenceFrames x = Made.used();
            DUE.is("hash of none at the end of row " + row, x.hash(row, x.count(row), 0, 0), 0x02CC5D05L);
            DUE.is("hash of none within row " + row, x.hash(row, 5, 0, 0), 0x02CC5D05L);
        }
    }

    private static void ofAllBytes() {
        SequenceFrames x = Made.withContent(140000);
        x.pack();
        x.read();
        DUE.is("hash of 140000, CONTENT and OUTPUT", x.hash(0, 0, 140000, 5), x.hash(2, 0, 140000, 5));
        DUE.is("hash of 140001", x.hash(0, 0, 140001, 5), -1);
        DUE.is("hash of 140001 of OUTPUT", x.hash(2, 0, 140001, 5), -1);
        x = Made.withFrames(150000);
        DUE.holds("hash of 150000", x.hash(1, 0, 150000, 5) >= 0);
        DUE.is("hash of 150001", x.hash(1, 0, 150001, 5), -1);
    }
}
