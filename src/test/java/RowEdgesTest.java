import java.util.function.ToLongFunction;

/**
 * The edges of promises 1 to 7 and 11 to 13, sentence by sentence: what puts bytes behind CONTENT and FRAMES,
 * changes and shortens them; and what the rows hold after a call that is refused.
 */
public final class RowEdgesTest {
    private static final Due DUE = new Due();
    private static final int[] NOT_1_TO_8 =
        {0, 9, -1, -8, 10, 255, 257, 65537, Integer.MIN_VALUE, Integer.MIN_VALUE + 1, Integer.MAX_VALUE};
    private static final int[] NOT_1_TO_70000 =
        {0, 70001, -1, -70000, 140000, 140001, 65536 * 3 + 1, Integer.MIN_VALUE, Integer.MIN_VALUE + 1, Integer.MAX_VALUE};
    /** A byte's lowest 8 bits, of numbers with others too. */
    private static final int[] LARGE = {0, 1, 127, 128, 255, 256, 257, 0x1FF, 0x7FFFFF80, -1, -2, -128, -129, -256,
        Integer.MIN_VALUE, Integer.MAX_VALUE};

    public static void main(String[] args) {
        aNewObjectsRowsAreEmpty();
        aNewObjectsOptions();
        objectsShareNothing();
        feedPutsTheLowestBytesHighestFirst();
        feedIsNoneWhenNIsNot1To8();
        feedIsFull();
        fillPutsTheLowest8Bits();
        fillIsNoneWhenNIsNot1To70000();
        fillIsFull();
        againPutsEachTheOneDistanceBefore();
        againIsNoneWhenNIsNot1To70000();
        againIsNoneWhenDistanceIsNot1UpToHowManyItHas();
        againIsFull();
        mixPutsBits16To23();
        mixIsNoneWhenNIsNot1To70000();
        mixIsFull();
        noneGoesBeforeFull();
        contentHas140000AtMost();
        changeSetsTheLowest8Bits();
        changeIsNoneWhenThereIsNone();
        keepLetsTheFirstStay();
        keepIsNoneBelow0OrWhenThereAreNotSoMany();
        givePutsAsFeedDoes();
        giveIsNoneWhenNIsNot1To8();
        giveIsFull();
        framesHave150000AtMost();
        alterSetsTheLowest8Bits();
        alterIsNoneWhenThereIsNone();
        cutLetsTheFirstStay();
        cutIsNoneBelow0OrWhenThereAreNotSoMany();
        DUE.end();
    }

    /** Refused when nothing has been done yet, and when all has been used. */
    private static void refusedEverywhere(String call, ToLongFunction<SequenceFrames> made, int want) {
        DUE.refused("new, " + call, new SequenceFrames(), made, want);
        DUE.refused("used, " + call, Made.used(), made, want);
    }

    /** The bytes of a row from a place on, and that it ends there when end is asked for. */
    private static void octets(String when, SequenceFrames x, int row, int from, int... want) {
        for (int i = 0; i < want.length; i++) {
            DUE.is(when + ", octet(" + row + ", " + (from + i) + ")", x.octet(row, from + i), want[i]);
        }
    }

    // ---- 1: a new object

    private static void aNewObjectsRowsAreEmpty() {
        SequenceFrames x = new SequenceFrames();
        for (int row = 0; row <= 2; row++) {
            DUE.is("new, count(" + row + ")", x.count(row), 0);
            DUE.is("new, octet(" + row + ", 0)", x.octet(row, 0), -1);
            DUE.is("new, hash of one byte of row " + row, x.hash(row, 0, 1, 0), -1);
        }
    }

    private static void aNewObjectsOptions() {
        DUE.same("new, options", Told.options(new SequenceFrames()), " 0 0 0 0 4 65536");
        SequenceFrames x = new SequenceFrames();
        x.fill(1, 65537);
        x.fill(1, 1);
        x.pack();
        octets("new, head of pack(): not LINKED, no CHECKS, no SIZE, CODE 4", x, 1, 0, 4, 34, 77, 24, 96, 64, 130);
        DUE.is("new, PART 65536: blocks", x.count(4), 2);
        DUE.is("new, PART 65536: the second block's first byte", x.sequence(2, 1), 65536);
    }

    private static void objectsShareNothing() {
        SequenceFrames first = new SequenceFrames();
        String before = Told.of(first);
        Made.used();
        DUE.same("a new object while another is used", Told.of(first), before);
    }

    // ---- 2: feed

    private static void feedPutsTheLowestBytesHighestFirst() {
        long bytes = 0xF1E2D3C4B5A69788L;
        int[] all = {0xF1, 0xE2, 0xD3, 0xC4, 0xB5, 0xA6, 0x97, 0x88};
        for (int n = 1; n <= 8; n++) {
            SequenceFrames x = new SequenceFrames();
            x.feed(0x55, 1);
            DUE.is("feed of " + n, x.feed(bytes, n), 1 + n);
            DUE.is("feed of " + n + ", count(0)", x.count(0), 1 + n);
            for (int i = 0; i < n; i++) {
                DUE.is("feed of " + n + ", octet(0, " + (1 + i) + ")", x.octet(0, 1 + i), all[8 - n + i]);
            }
            octets("feed of " + n, x, 0, 0, 0x55);
            octets("feed of " + n, x, 0, 1 + n, -1);
        }
        SequenceFrames x = new SequenceFrames();
        x.feed(Long.MIN_VALUE, 8);
        x.feed(-1, 2);
        octets("feed of the least and of -1", x, 0, 0, 128, 0, 0, 0, 0, 0, 0, 0, 255, 255, -1);
    }

    private static void feedIsNoneWhenNIsNot1To8() {
        for (int n : NOT_1_TO_8) {
            refusedEverywhere("feed(5, " + n + ")", x -> x.feed(5, n), -1);
        }
    }

    private static void feedIsFull() {
        for (int n = 1; n <= 8; n++) {
            int k = n;
            DUE.refused("feed(5, " + n + ") into " + (n - 1), Made.withContent(140001 - n), x -> x.feed(5, k), -2);
            SequenceFrames x = Made.withContent(140000 - n);
            DUE.is("feed(5, " + n + ") into " + n, x.feed(5, n), 140000);
            octets("feed(5, " + n + ") into " + n, x, 0, 139999, 5, -1);
            DUE.refused("feed(5, " + n + ") into none", x, y -> y.feed(5, k), -2);
        }
    }

    // ---- 3: fill

    private static void fillPutsTheLowest8Bits() {
        for (int b : LARGE) {
            SequenceFrames x = new SequenceFrames();
            x.feed(0x55, 1);
            DUE.is("fill(" + b + ", 2)", x.fill(b, 2), 3);
            octets("fill(" + b + ", 2)", x, 0, 0, 0x55, b & 255, b & 255, -1);
        }
        SequenceFrames x = new SequenceFrames();
        DUE.is("fill(9, 1)", x.fill(9, 1), 1);
        DUE.is("fill(8, 70000)", x.fill(8, 70000), 70001);
        octets("fill(8, 70000)", x, 0, 0, 9, 8);
        octets("fill(8, 70000)", x, 0, 70000, 8, -1);
        DUE.is("fill(7, 69999)", x.fill(7, 69999), 140000);
        octets("fill(7, 69999)", x, 0, 70000, 8, 7);
    }

    private static void fillIsNoneWhenNIsNot1To70000() {
        for (int n : NOT_1_TO_70000) {
            refusedEverywhere("fill(5, " + n + ")", x -> x.fill(5, n), -1);
        }
    }

    private static void fillIsFull() {
        for (int n : new int[] {1, 2, 1000, 69999, 70000}) {
            DUE.refused("fill(5, " + n + ") into " + (n - 1), Made.withContent(140001 - n), x -> x.fill(5, n), -2);
            SequenceFrames x = Made.withContent(140000 - n);
            DUE.is("fill(5, " + n + ") into " + n, x.fill(5, n), 140000);
            octets("fill(5, " + n + ") into " + n, x, 0, 139999, 5, -1);
        }
    }

    // ---- 4: again

    private static void againPutsEachTheOneDistanceBefore() {
        for (int distance = 1; distance <= 5; distance++) {
            SequenceFrames x = new SequenceFrames();
            x.feed(0x8182838485L, 5);
            DUE.is("again(" + distance + ", 12)", x.again(distance, 12), 17);
            octets("again(" + distance + ", 12)", x, 0, 0, 0x81, 0x82, 0x83, 0x84, 0x85);
            for (int i = 5; i < 17; i++) {
                int want = 0x86 - distance + (i - 5) % distance;
                DUE.is("again(" + distance + ", 12), octet(0, " + i + ")", x.octet(0, i), want);
            }
            octets("again(" + distance + ", 12)", x, 0, 17, -1);
        }
        SequenceFrames x = new SequenceFrames();
        x.feed(0x0102, 2);
        DUE.is("again(2, 70000)", x.again(2, 70000), 70002);
        octets("again(2, 70000)", x, 0, 70000, 1, 2, -1);
        DUE.is("again(70002, 1)", x.again(70002, 1), 70003);
        octets("again(70002, 1)", x, 0, 70002, 1, -1);
    }

    private static void againIsNoneWhenNIsNot1To70000() {
        for (int n : NOT_1_TO_70000) {
            refusedEverywhere("again(1, " + n + ")", x -> x.again(1, n), -1);
        }
    }

    private static void againIsNoneWhenDistanceIsNot1UpToHowManyItHas() {
        for (int distance : new int[] {0, -1, 101, 102, 140000, Integer.MIN_VALUE, Integer.MAX_VALUE}) {
            refusedEverywhere("again(" + distance + ", 1)", x -> x.again(distance, 1), -1);
        }
        DUE.refused("new, again(1, 1)", new SequenceFrames(), x -> x.again(1, 1), -1);
        DUE.is("again(100, 1) of 100", Made.used().again(100, 1), 101);
        SequenceFrames x = Made.withContent(9);
        x.keep(3);
        DUE.refused("again(4, 1) of 3 that were 9", x, y -> y.again(4, 1), -1);
        DUE.is("again(3, 1) of 3 that were 9", x.again(3, 1), 4);
    }

    private static void againIsFull() {
        for (int n : new int[] {1, 2, 1000, 69999, 70000}) {
            DUE.refused("again(1, " + n + ") into " + (n - 1), Made.withContent(140001 - n), x -> x.again(1, n), -2);
            SequenceFrames x = Made.withContent(140000 - n);
            int last = x.octet(0, 139999 - n);
            DUE.is("again(1, " + n + ") into " + n, x.again(1, n), 140000);
            octets("again(1, " + n + ") into " + n, x, 0, 139999, last, -1);
        }
        DUE.refused("again(140000, 1) of 140000", Made.withContent(140000), x -> x.again(140000, 1), -2);
    }

    // ---- 5: mix

    /** WORDS have 32 bits and run over: reckoned here with numbers that have room for more. */
    private static void mixPutsBits16To23() {
        for (int seed : new int[] {0, 1, 2, -1, 65536, 0x7FFF0000, Integer.MAX_VALUE, Integer.MIN_VALUE, -1103515245}) {
            SequenceFrames x = new SequenceFrames();
            x.feed(0x55, 1);
            DUE.is("mix(" + seed + ", 50)", x.mix(seed, 50), 51);
            long word = seed & 0xFFFFFFFFL;
            for (int i = 1; i <= 50; i++) {
                word = (word * 1103515245L + 12345L) % (1L << 32);
                DUE.is("mix(" + seed + ", 50), octet(0, " + i + ")", x.octet(0, i), word / 65536 % 256);
            }
            octets("mix(" + seed + ", 50)", x, 0, 51, -1);
        }
        SequenceFrames x = new SequenceFrames();
        x.mix(6, 1);
        x.mix(6, 70000);
        DUE.is("each mix() begins with its seed", x.octet(0, 0), x.octet(0, 1));
        DUE.is("mix(6, 70000), count(0)", x.count(0), 70001);
    }

    private static void mixIsNoneWhenNIsNot1To70000() {
        for (int n : NOT_1_TO_70000) {
            refusedEverywhere("mix(5, " + n + ")", x -> x.mix(5, n), -1);
        }
    }

    private static void mixIsFull() {
        for (int n : new int[] {1, 2, 1000, 69999, 70000}) {
            DUE.refused("mix(5, " + n + ") into " + (n - 1), Made.withContent(140001 - n), x -> x.mix(5, n), -2);
            DUE.is("mix(5, " + n + ") into " + n, Made.withContent(140000 - n).mix(5, n), 140000);
        }
    }

    /** The document names NONE first: a wrong number is NONE even where there is no room for it. */
    private static void noneGoesBeforeFull() {
        SequenceFrames x = Made.withContent(140000);
        DUE.refused("full, feed(1, 9)", x, y -> y.feed(1, 9), -1);
        DUE.refused("full, fill(1, 70001)", x, y -> y.fill(1, 70001), -1);
        DUE.refused("full, mix(1, 70001)", x, y -> y.mix(1, 70001), -1);
        x = Made.withContent(140000);
        DUE.refused("full, again(1, 70001)", x, y -> y.again(1, 70001), -1);
        DUE.refused("full, again(140001, 1)", x, y -> y.again(140001, 1), -1);
        DUE.refused("full, again(0, 1)", x, y -> y.again(0, 1), -1);
        x = Made.withFrames(150000);
        DUE.refused("full, give(1, 9)", x, y -> y.give(1, 9), -1);
    }

    private static void contentHas140000AtMost() {
        SequenceFrames x = Made.withContent(140000);
        DUE.is("count(0)", x.count(0), 140000);
        DUE.refused("feed(1, 1) to 140000", x, y -> y.feed(1, 1), -2);
        DUE.refused("fill(1, 1) to 140000", x, y -> y.fill(1, 1), -2);
        DUE.refused("again(1, 1) to 140000", x, y -> y.again(1, 1), -2);
        DUE.refused("mix(1, 1) to 140000", x, y -> y.mix(1, 1), -2);
        DUE.is("keep(139999)", x.keep(139999), 140000);
        DUE.is("feed(1, 1) to 139999", x.feed(1, 1), 140000);
    }

    // ---- 6 and 7: change, keep

    private static void changeSetsTheLowest8Bits() {
        for (int b : LARGE) {
            SequenceFrames x = new SequenceFrames();
            x.feed(0x80FF7F, 3);
            DUE.is("change(1, " + b + ")", x.change(1, b), 255);
            octets("change(1, " + b + ")", x, 0, 0, 0x80, b & 255, 0x7F, -1);
            DUE.is("change(0, " + b + ")", x.change(0, b), 128);
            DUE.is("change(2, " + b + ")", x.change(2, b), 127);
            octets("change(2, " + b + ")", x, 0, 0, b & 255, b & 255, b & 255, -1);
            DUE.is("change(2, 9)", x.change(2, 9), b & 255);
            DUE.is("count(0)", x.count(0), 3);
        }
        SequenceFrames x = Made.withContent(140000);
        int last = x.octet(0, 139999);
        DUE.is("change(139999, 300)", x.change(139999, 300), last);
        octets("change(139999, 300)", x, 0, 139999, 300 - 256, -1);
    }

    private static void changeIsNoneWhenThereIsNone() {
        for (int i : new int[] {-1, 100, 101, 139999, 140000, Integer.MIN_VALUE, Integer.MAX_VALUE}) {
            refusedEverywhere("change(" + i + ", 1)", x -> x.change(i, 1), -1);
        }
        DUE.refused("new, change(0, 1)", new SequenceFrames(), x -> x.change(0, 1), -1);
        DUE.refused("change(140000, 1) of 140000", Made.withContent(140000), x -> x.change(140000, 1), -1);
        SequenceFrames x = Made.withContent(9);
        x.keep(3);
        DUE.refused("change(3, 1) of 3 that were 9", x, y -> y.change(3, 1), -1);
    }

    private static void keepLetsTheFirstStay() {
        for (int n = 0; n <= 4; n++) {
            SequenceFrames x = new SequenceFrames();
            x.feed(0x0A0B0C0D, 4);
            DUE.is("keep(" + n + ") of 4", x.keep(n), 4);
            DUE.is("keep(" + n + ") of 4, count(0)", x.count(0), n);
            for (int i = 0; i <= 4; i++) {
                DUE.is("keep(" + n + ") of 4, octet(0, " + i + ")", x.octet(0, i), i < n ? 10 + i : -1);
            }
            DUE.is("keep(" + n + ") of 4, feed(9, 1)", x.feed(9, 1), n + 1);
            octets("keep(" + n + ") of 4, feed(9, 1)", x, 0, n, 9, -1);
        }
        DUE.is("new, keep(0)", new SequenceFrames().keep(0), 0);
        DUE.refused("keep(100) of 100", Made.used(), x -> x.keep(100), 100);
    }

    private static void keepIsNoneBelow0OrWhenThereAreNotSoMany() {
        for (int n : new int[] {-1, -100, 101, 102, 140000, 140001, Integer.MIN_VALUE, Integer.MAX_VALUE}) {
            refusedEverywhere("keep(" + n + ")", x -> x.keep(n), -1);
        }
        DUE.refused("new, keep(1)", new SequenceFrames(), x -> x.keep(1), -1);
        DUE.refused("keep(140001) of 140000", Made.withContent(140000), x -> x.keep(140001), -1);
        SequenceFrames x = Made.withContent(9);
        x.keep(3);
        DUE.refused("keep(4) of 3 that were 9", x, y -> y.keep(4), -1);
    }

    // ---- 11 to 13: give, alter, cut

    private static void givePutsAsFeedDoes() {
        long bytes = 0xF1E2D3C4B5A69788L;
        for (int n = 1; n <= 8; n++) {
            SequenceFrames x = new SequenceFrames();
            x.give(0x55, 1);
            x.feed(0x55, 1);
            DUE.is("give of " + n, x.give(bytes, n), 1 + n);
            DUE.is("give of " + n + ", count(1)", x.count(1), 1 + n);
            DUE.is("give of " + n + ", count(0)", x.count(0), 1);
            for (int i = 0; i < n; i++) {
                DUE.is("give of " + n + ", octet(1, " + (1 + i) + ")", x.octet(1, 1 + i), bytes >> 8 * (n - 1 - i) & 255);
            }
            octets("give of " + n, x, 1, 0, 0x55);
            octets("give of " + n, x, 1, 1 + n, -1);
        }
    }

    private static void giveIsNoneWhenNIsNot1To8() {
        for (int n : NOT_1_TO_8) {
            refusedEverywhere("give(5, " + n + ")", x -> x.give(5, n), -1);
        }
    }

    private static void giveIsFull() {
        for (int n = 1; n <= 8; n++) {
            int k = n;
            SequenceFrames x = Made.withFrames(150001 - n);
            DUE.refused("give(5, " + n + ") into " + (n - 1), x, y -> y.give(5, k), -2);
            DUE.is("cut(" + (150000 - n) + ")", x.cut(150000 - n), 150001 - n);
            DUE.is("give(5, " + n + ") into " + n, x.give(5, n), 150000);
            octets("give(5, " + n + ") into " + n, x, 1, 149999, 5, -1);
        }
    }

    private static void framesHave150000AtMost() {
        SequenceFrames x = Made.withFrames(150000);
        DUE.is("count(1)", x.count(1), 150000);
        DUE.refused("give(1, 1) to 150000", x, y -> y.give(1, 1), -2);
        DUE.is("skip(0, 0, 0) to 150000", x.skip(0, 0, 0), -2);
        DUE.is("pack() to 150000", x.pack(), -2);
        DUE.is("count(1) after these", x.count(1), 150000);
        DUE.is("CONTENT has room of its own", x.feed(1, 1), 1);
        DUE.is("cut(149999)", x.cut(149999), 150000);
        DUE.is("give(1, 1) to 149999", x.give(1, 1), 150000);
    }

    private static void alterSetsTheLowest8Bits() {
        for (int b : LARGE) {
            SequenceFrames x = new SequenceFrames();
            x.give(0x80FF7F, 3);
            x.feed(0x010203, 3);
            DUE.is("alter(1, " + b + ")", x.alter(1, b), 255);
            octets("alter(1, " + b + ")", x, 1, 0, 0x80, b & 255, 0x7F, -1);
            DUE.is("alter(0, " + b + ")", x.alter(0, b), 128);
            DUE.is("alter(2, " + b + ")", x.alter(2, b), 127);
            octets("alter(2, " + b + ")", x, 1, 0, b & 255, b & 255, b & 255, -1);
            octets("alter(), CONTENT", x, 0, 0, 1, 2, 3, -1);
        }
        SequenceFrames x = Made.withFrames(150000);
        x.alter(149999, 3);
        DUE.is("alter(149999, 300)", x.alter(149999, 300), 3);
        octets("alter(149999, 300)", x, 1, 149999, 300 - 256, -1);
    }

    private static void alterIsNoneWhenThereIsNone() {
        int n = Made.used().count(1);
        for (int i : new int[] {-1, n, n + 1, 149999, 150000, Integer.MIN_VALUE, Integer.MAX_VALUE}) {
            refusedEverywhere("alter(" + i + ", 1)", x -> x.alter(i, 1), -1);
        }
        DUE.refused("new, alter(0, 1)", new SequenceFrames(), x -> x.alter(0, 1), -1);
        DUE.refused("alter(150000, 1) of 150000", Made.withFrames(150000), x -> x.alter(150000, 1), -1);
        SequenceFrames x = Made.withFrames(9);
        x.cut(3);
        DUE.refused("alter(3, 1) of 3 that were 9", x, y -> y.alter(3, 1), -1);
    }

    private static void cutLetsTheFirstStay() {
        for (int n = 0; n <= 4; n++) {
            SequenceFrames x = new SequenceFrames();
            x.give(0x0A0B0C0D, 4);
            x.feed(1, 1);
            DUE.is("cut(" + n + ") of 4", x.cut(n), 4);
            DUE.is("cut(" + n + ") of 4, count(1)", x.count(1), n);
            DUE.is("cut(" + n + ") of 4, count(0)", x.count(0), 1);
            for (int i = 0; i <= 4; i++) {
                DUE.is("cut(" + n + ") of 4, octet(1, " + i + ")", x.octet(1, i), i < n ? 10 + i : -1);
            }
            DUE.is("cut(" + n + ") of 4, give(9, 1)", x.give(9, 1), n + 1);
            octets("cut(" + n + ") of 4, give(9, 1)", x, 1, n, 9, -1);
        }
        DUE.is("new, cut(0)", new SequenceFrames().cut(0), 0);
        int all = Made.used().count(1);
        DUE.refused("cut() to all there are", Made.used(), x -> x.cut(all), all);
    }

    private static void cutIsNoneBelow0OrWhenThereAreNotSoMany() {
        int all = Made.used().count(1);
        for (int n : new int[] {-1, -all, all + 1, all + 2, 150000, 150001, Integer.MIN_VALUE, Integer.MAX_VALUE}) {
            refusedEverywhere("cut(" + n + ")", x -> x.cut(n), -1);
        }
        DUE.refused("new, cut(1)", new SequenceFrames(), x -> x.cut(1), -1);
        DUE.refused("cut(150001) of 150000", Made.withFrames(150000), x -> x.cut(150001), -1);
        SequenceFrames x = Made.withFrames(9);
        x.cut(3);
        DUE.refused("cut(4) of 3 that were 9", x, y -> y.cut(4), -1);
    }
}
