/** Promises 1 to 7: a new object and CONTENT. */
public final class ContentTest {
    private static final Due DUE = new Due();

    public static void main(String[] args) {
        newObject();
        feed();
        fill();
        again();
        mix();
        change();
        keep();
        DUE.end();
    }

    private static void octets(SequenceFrames x, String call, int from, int... want) {
        for (int i = 0; i < want.length; i++) {
            DUE.is(call + ", octet(0, " + (from + i) + ")", x.octet(0, from + i), want[i]);
        }
    }

    private static void newObject() {
        SequenceFrames x = new SequenceFrames();
        for (int what = 0; what <= 8; what++) {
            DUE.is("new, count(" + what + ")", x.count(what), 0);
        }
        DUE.is("new, place()", x.place(), -1);
        DUE.is("new, differs()", x.differs(), -1);
        int[] before = {0, 0, 0, 0, 4, 65536};
        int[] after = {1, 1, 1, 1, 7, 1};
        for (int what = 0; what <= 5; what++) {
            DUE.is("new, option(" + what + ")", x.option(what, after[what]), before[what]);
            DUE.is("another object's option(" + what + ")", new SequenceFrames().option(what, after[what]), before[what]);
        }
        DUE.is("new, read()", x.read(), 0);
    }

    private static void feed() {
        SequenceFrames x = new SequenceFrames();
        DUE.is("feed 3", x.feed(0x1122334455667788L, 3), 3);
        octets(x, "feed 3", 0, 0x66, 0x77, 0x88, -1);
        DUE.is("feed 8", x.feed(0xF122334455667788L, 8), 11);
        octets(x, "feed 8", 3, 0xF1, 0x22, 0x33, 0x44, 0x55, 0x66, 0x77, 0x88, -1);
        DUE.is("feed 1", x.feed(-1, 1), 12);
        octets(x, "feed 1", 11, 255, -1);
        for (int n : new int[] {0, 9, -1, Integer.MIN_VALUE, Integer.MAX_VALUE}) {
            DUE.is("feed " + n, x.feed(5, n), -1);
        }
        DUE.is("count(0)", x.count(0), 12);
        fullTo(x, 139995);
        DUE.is("feed 6 into room of 5", x.feed(1, 6), -2);
        DUE.is("feed 9 into room of 5", x.feed(1, 9), -1);
        DUE.is("feed 5 into room of 5", x.feed(1, 5), 140000);
        DUE.is("feed 1 into no room", x.feed(1, 1), -2);
        DUE.is("count(0) when full", x.count(0), 140000);
        octets(x, "when full", 139998, 0, 1, -1);
    }

    /** Fills CONTENT with byte 7 up to a size. */
    private static void fullTo(SequenceFrames x, int size) {
        while (x.count(0) < size) {
            x.fill(7, Math.min(70000, size - x.count(0)));
        }
    }

    private static void fill() {
        SequenceFrames x = new SequenceFrames();
        DUE.is("fill", x.fill(0x1FE, 3), 3);
        octets(x, "fill", 0, 0xFE, 0xFE, 0xFE, -1);
        for (int n : new int[] {0, 70001, -1, Integer.MIN_VALUE, Integer.MAX_VALUE}) {
            DUE.is("fill " + n, x.fill(5, n), -1);
        }
        DUE.is("fill 70000", x.fill(-2, 70000), 70003);
        octets(x, "fill 70000", 70001, 254, 254, -1);
        DUE.is("fill too much", x.fill(1, 69998), -2);
        DUE.is("fill too much and wrong", x.fill(1, 70001), -1);
        DUE.is("fill the rest", x.fill(1, 69997), 140000);
        DUE.is("fill 1 more", x.fill(1, 1), -2);
        octets(x, "the rest", 70002, 254, 1);
    }

    private static void again() {
        SequenceFrames x = new SequenceFrames();
        DUE.is("again of nothing", x.again(1, 1), -1);
        x.feed(0x010203, 3);
        DUE.is("again 3, 7", x.again(3, 7), 10);
        octets(x, "again 3, 7", 0, 1, 2, 3, 1, 2, 3, 1, 2, 3, 1, -1);
        DUE.is("again 10, 1", x.again(10, 1), 11);
        DUE.is("again 1, 2", x.again(1, 2), 13);
        octets(x, "again 1, 2", 9, 1, 1, 1, 1, -1);
        for (int distance : new int[] {0, 14, -1, Integer.MIN_VALUE, Integer.MAX_VALUE}) {
            DUE.is("again " + distance, x.again(distance, 1), -1);
        }
        for (int n : new int[] {0, 70001, -1, Integer.MIN_VALUE, Integer.MAX_VALUE}) {
            DUE.is("again 1, " + n, x.again(1, n), -1);
        }
        DUE.is("again 13, 70000", x.again(13, 70000), 70013);
        DUE.is("again too much", x.again(1, 69988), -2);
        DUE.is("again too much and too far", x.again(70014, 69988), -1);
        DUE.is("again the rest", x.again(1, 69987), 140000);
        DUE.is("again the farthest, full", x.again(140000, 1), -2);
        DUE.is("again too far, full", x.again(140001, 1), -1);
    }

    private static void mix() {
        SequenceFrames x = new SequenceFrames();
        DUE.is("mix", x.mix(1, 4), 4);
        // 1103527590, 2524885223, 662824084, 3295386429: divided by 65536, the rest by 256
        octets(x, "mix", 0, 1103527590 / 65536 % 256, (int) (2524885223L / 65536 % 256), 662824084 / 65536 % 256,
            (int) (3295386429L / 65536 % 256), -1);
        DUE.is("mix of a seed below 0", x.mix(-5, 2), 6);
        long first = (0xFFFFFFFBL * 1103515245L + 12345) & 0xFFFFFFFFL;
        long second = (first * 1103515245L + 12345) & 0xFFFFFFFFL;
        octets(x, "mix of a seed below 0", 4, (int) (first >> 16 & 255), (int) (second >> 16 & 255), -1);
        for (int n : new int[] {0, 70001, -1, Integer.MIN_VALUE, Integer.MAX_VALUE}) {
            DUE.is("mix " + n, x.mix(5, n), -1);
        }
        DUE.is("mix 70000", x.mix(9, 70000), 70006);
        DUE.is("mix too much", x.mix(9, 69995), -2);
        DUE.is("mix the rest", x.mix(9, 69994), 140000);
        DUE.is("the same seed, the same bytes", x.hash(0, 6, 69994, 0), x.hash(0, 70006, 69994, 0));
        DUE.is("mix 1 more", x.mix(9, 1), -2);
    }

    private static void change() {
        SequenceFrames x = new SequenceFrames();
        DUE.is("change of nothing", x.change(0, 1), -1);
        x.feed(0x0A0BFF, 3);
        DUE.is("change(1)", x.change(1, 0x3C8), 0x0B);
        DUE.is("change(2)", x.change(2, -1), 0xFF);
        DUE.is("change(0)", x.change(0, 0x80), 0x0A);
        octets(x, "change", 0, 0x80, 0xC8, 0xFF, -1);
        for (int i : new int[] {3, -1, Integer.MIN_VALUE, Integer.MAX_VALUE, 140000}) {
            DUE.is("change(" + i + ")", x.change(i, 1), -1);
        }
        x.keep(2);
        DUE.is("change of a byte that is gone", x.change(2, 1), -1);
    }

    private static void keep() {
        SequenceFrames x = new SequenceFrames();
        DUE.is("keep(0) of nothing", x.keep(0), 0);
        x.feed(0x0A0B0C0D, 4);
        DUE.is("keep(5)", x.keep(5), -1);
        DUE.is("keep(-1)", x.keep(-1), -1);
        DUE.is("keep least", x.keep(Integer.MIN_VALUE), -1);
        DUE.is("keep most", x.keep(Integer.MAX_VALUE), -1);
        DUE.is("keep(4)", x.keep(4), 4);
        DUE.is("keep(2)", x.keep(2), 4);
        octets(x, "keep(2)", 0, 10, 11, -1);
        DUE.is("feed behind keep", x.feed(9, 1), 3);
        octets(x, "feed behind keep", 0, 10, 11, 9, -1);
        DUE.is("keep(0)", x.keep(0), 3);
        DUE.is("count(0)", x.count(0), 0);
    }
}
