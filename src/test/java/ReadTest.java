/** Promises 14 and 15: read() and place(), with each FAULT and its place. */
public final class ReadTest {
    private static final Due DUE = new Due();
    private static final int UNLINKED = 96;
    private static final int LINKED = 64;
    private static final int CHECKS = 16;
    private static final int SIZE = 8;
    private static final int ALL = 4;
    private static final int CODE4 = 64;

    public static void main(String[] args) {
        framesWithoutFault();
        outputStays();
        endsEverywhere();
        beginnings();
        heads();
        blockSizes();
        checks();
        offsets();
        tooMuchForBlock();
        tooMuchForOutput();
        blockRules();
        sizes();
        orderOfFaults();
        DUE.end();
    }

    private static SequenceFrames given(Bytes frames) {
        SequenceFrames x = new SequenceFrames();
        frames.giveTo(x);
        return x;
    }

    private static void refused(String what, Bytes frames, int fault, int place) {
        refused(what, given(frames), fault, place);
    }

    private static void refused(String what, SequenceFrames x, int fault, int place) {
        DUE.is(what + ", read()", x.read(), -10 - fault);
        DUE.is(what + ", place()", x.place(), place);
    }

    private static void reads(String what, Bytes frames, Bytes output) {
        SequenceFrames x = given(frames);
        DUE.is(what + ", read()", x.read(), output.size());
        DUE.is(what + ", place()", x.place(), -1);
        DUE.is(what + ", hash of OUTPUT", x.hash(2, 0, output.size(), 0), Model.hashOf(output.toArray(), 0));
    }

    /** A frame, not LINKED and without checks, of one packed block. */
    private static Bytes frameOf(Bytes block) {
        return new Bytes().head(UNLINKED, CODE4).block(block).zeros();
    }

    private static Bytes bytes(int... bytes) {
        return new Bytes().add(bytes);
    }

    /** Literals 1, 2, 3; a match of 7 with offset 3; literals 4 .. 8. */
    private static Bytes goodBlock() {
        return bytes(0x33, 1, 2, 3, 3, 0, 0x50, 4, 5, 6, 7, 8);
    }

    private static Bytes goodOutput() {
        return bytes(1, 2, 3, 1, 2, 3, 1, 2, 3, 1, 4, 5, 6, 7, 8);
    }

    private static void framesWithoutFault() {
        reads("none", new Bytes(), new Bytes());
        reads("one block", frameOf(goodBlock()), goodOutput());
        reads("no block", new Bytes().head(UNLINKED, CODE4).zeros(), new Bytes());
        reads("a RAW block without bytes", new Bytes().head(UNLINKED, CODE4).raw(new Bytes()).zeros(), new Bytes());
        reads("a block that stands for none", frameOf(bytes(0)), new Bytes());
        reads("literals alone", frameOf(bytes(0x20, 7, 8)), bytes(7, 8));
        for (int code = 4; code <= 7; code++) {
            reads("code " + code, new Bytes().head(UNLINKED, 16 * code).block(goodBlock()).zeros(), goodOutput());
        }
        Bytes all = new Bytes().head(LINKED | CHECKS | SIZE | ALL, CODE4, 32).block(goodBlock()).check(goodBlock());
        Bytes linked = bytes(0x08, 15, 0, 0x50, 9, 9, 9, 9, 9);
        Bytes output = goodOutput().add(1, 2, 3, 1, 2, 3, 1, 2, 3, 1, 4, 5, 9, 9, 9, 9, 9);
        all.block(linked).check(linked).zeros().check(output);
        reads("linked, with all there is", all, output);
        Bytes many = bytes(0x50, 42, 77, 24, 0, 0, 0, 0).add(frameOf(goodBlock())).add(0x5F, 42, 77, 24, 2, 0, 0, 0, 1, 2).add(all);
        SequenceFrames x = given(many);
        DUE.is("many frames, read()", x.read(), 47);
        DUE.is("many frames, count(7)", x.count(7), 4);
        DUE.is("many frames, count(8)", x.count(8), 3);
        reads("literals of 15", frameOf(bytes(0xF0, 0).run(3, 15)), new Bytes().run(3, 15));
        reads("literals of 270", frameOf(bytes(0xF0, 255, 0).run(3, 270)), new Bytes().run(3, 270));
        reads("a match of 19", frameOf(bytes(0x1F, 3, 1, 0, 0, 0x50).run(4, 5)), new Bytes().run(3, 20).run(4, 5));
        reads("a match of 274", frameOf(bytes(0x1F, 3, 1, 0, 255, 0, 0x50).run(4, 5)), new Bytes().run(3, 275).run(4, 5));
    }

    private static void outputStays() {
        SequenceFrames x = given(frameOf(goodBlock()));
        DUE.is("place() before", x.place(), -1);
        x.read();
        long before = x.hash(2, 0, 15, 0);
        frameOf(bytes(0x20, 7, 8)).giveTo(x);
        x.give(0x01020304, 4);
        refused("a later fault", x, 2, x.count(1) - 4);
        DUE.is("OUTPUT stays", x.count(2), 15);
        DUE.is("OUTPUT stays", x.hash(2, 0, 15, 0), before);
        DUE.is("frames stay", x.count(7), 1);
        x.cut(x.count(1) - 4);
        DUE.is("place() of the latest read()", x.place(), x.count(1));
        DUE.is("read()", x.read(), 17);
        DUE.is("place() without a fault", x.place(), -1);
        x.cut(0);
        DUE.is("read() of none", x.read(), 0);
        DUE.is("frames of none", x.count(7), 0);
        DUE.is("blocks of none", x.count(8), 0);
    }

    /** Each beginning of good frames is good where a frame ends, and else fault 1 at its end. */
    private static void endsEverywhere() {
        Bytes first = new Bytes().head(UNLINKED | CHECKS | SIZE | ALL, CODE4, 18).block(goodBlock()).check(goodBlock())
            .raw(bytes(1, 2, 3)).check(bytes(1, 2, 3)).zeros().check(goodOutput().add(1, 2, 3));
        Bytes skipped = bytes(0x57, 42, 77, 24, 3, 0, 0, 0, 1, 2, 3);
        Bytes last = new Bytes().head(LINKED, CODE4).block(goodBlock()).zeros();
        Bytes all = new Bytes().add(first).add(skipped).add(last);
        for (int n = 0; n <= all.size(); n++) {
            SequenceFrames x = given(all);
            x.cut(n);
            boolean whole = n == 0 || n == first.size() || n == first.size() + skipped.size() || n == all.size();
            int got = x.read();
            DUE.holds("cut to " + n, whole ? got >= 0 : got == -11);
            DUE.is("cut to " + n + ", place()", x.place(), whole ? -1 : n);
        }
        refused("a skipped frame of 2^32 - 1 bytes", bytes(0x50, 42, 77, 24, 255, 255, 255, 255, 1), 1, 9);
        refused("a skipped frame of 2^31 bytes", bytes(0x50, 42, 77, 24, 0, 0, 0, 128, 1), 1, 9);
        refused("three wrong bytes", bytes(9, 9, 9), 1, 3);
    }

    private static void beginnings() {
        int[][] wrong = {{0, 0, 0, 0}, {5, 34, 77, 24}, {4, 35, 77, 24}, {4, 34, 76, 24}, {4, 34, 77, 25}, {0x4F, 42, 77, 24},
            {0x60, 42, 77, 24}, {0x50, 43, 77, 24}, {0x50, 42, 78, 24}, {0x50, 42, 77, 23}, {2, 33, 76, 24}};
        for (int[] w : wrong) {
            refused("no frame", bytes(w), 2, 0);
            refused("no frame behind one", frameOf(goodBlock()).add(w), 2, frameOf(goodBlock()).size());
        }
    }

    private static void heads() {
        for (int flg = 0; flg < 256; flg++) {
            Bytes frame = new Bytes().head(flg, CODE4, 0).zeros();
            if ((flg & 4) != 0) {
                frame.check(new Bytes());
            }
            if (flg >= 64 && flg < 128 && flg % 4 == 0) {
                reads("FLG " + flg, frame, new Bytes());
            } else {
                refused("FLG " + flg, frame, 3, 4);
                refused("FLG " + flg + " at the end", bytes(4, 34, 77, 24, flg), 3, 4);
            }
        }
        for (int bd = 0; bd < 256; bd++) {
            Bytes frame = new Bytes().head(UNLINKED, bd).zeros();
            if (bd == 64 || bd == 80 || bd == 96 || bd == 112) {
                reads("BD " + bd, frame, new Bytes());
            } else {
                refused("BD " + bd, frame, 3, 5);
                refused("BD " + bd + " at the end", bytes(4, 34, 77, 24, UNLINKED, bd), 3, 5);
            }
        }
        Bytes frame = new Bytes().head(UNLINKED, CODE4).zeros();
        SequenceFrames x = given(frame);
        x.alter(6, frame.at(6) ^ 1);
        refused("HC", x, 4, 6);
        frame = new Bytes().head(UNLINKED | SIZE, CODE4, 0).zeros();
        x = given(frame);
        x.alter(14, frame.at(14) ^ 128);
        refused("HC behind SIZE", x, 4, 14);
        x = given(frame);
        x.alter(13, 1);
        refused("HC is of SIZE too", x, 4, 14);
    }

    private static void blockSizes() {
        for (int code = 4; code <= 7; code++) {
            int most = 1 << (8 + 2 * code);
            Bytes head = new Bytes().head(UNLINKED, 16 * code);
            refused("just MOST, but not there", new Bytes().add(head).number(most, 4), 1, 11);
            refused("just MOST RAW, but not there", new Bytes().add(head).number(most | 1L << 31, 4), 1, 11);
            refused("more than MOST", new Bytes().add(head).number(most + 1, 4), 5, 7);
            refused("more than MOST, RAW", new Bytes().add(head).number(most + 1 | 1L << 31, 4).add(1), 5, 7);
            refused("the most", new Bytes().add(head).number(-1, 4), 5, 7);
            refused("the most not RAW", new Bytes().add(head).number(Integer.MAX_VALUE, 4), 5, 7);
        }
        SequenceFrames x = new SequenceFrames();
        x.mix(1, 65536);
        x.pack();
        DUE.is("a RAW block of MOST", x.read(), 65536);
        Bytes good = frameOf(goodBlock());
        refused("second block", new Bytes().head(UNLINKED, CODE4).block(goodBlock()).number(65537, 4), 5, good.size() - 4);
    }

    private static void checks() {
        Bytes frame = new Bytes().head(UNLINKED | CHECKS, CODE4).block(goodBlock()).check(goodBlock());
        int second = frame.size();
        frame.raw(bytes(1, 2, 3)).check(bytes(1, 2, 3)).zeros();
        for (int i = 0; i < 4; i++) {
            SequenceFrames x = given(frame);
            x.alter(second - 4 + i, frame.at(second - 4 + i) ^ 1);
            refused("CHECK of a block", x, 6, second - 4);
            x = given(frame);
            x.alter(second + 7 + i, frame.at(second + 7 + i) ^ 1);
            refused("CHECK of a RAW block", x, 6, second + 7);
        }
        SequenceFrames x = given(frame);
        x.alter(15, 0);
        refused("CHECK before OFFSET", x, 6, second - 4);
        frame = new Bytes().head(UNLINKED | ALL, CODE4).block(goodBlock()).zeros().check(goodOutput());
        for (int i = 1; i <= 4; i++) {
            x = given(frame);
            x.alter(frame.size() - i, frame.at(frame.size() - i) ^ 1);
            refused("CHECK of all", x, 11, frame.size() - 4);
        }
        Bytes two = new Bytes().add(frame).add(frame);
        reads("CHECK of all is of one frame", two, goodOutput().add(goodOutput()));
        x = given(two);
        x.alter(two.size() - 1, two.at(two.size() - 1) ^ 1);
        refused("CHECK of all of the second", x, 11, two.size() - 4);
    }

    private static void offsets() {
        refused("offset 0", frameOf(bytes(0x33, 1, 2, 3, 0, 0, 0x50, 4, 5, 6, 7, 8)), 7, 15);
        refused("offset 4 of 3", frameOf(bytes(0x33, 1, 2, 3, 4, 0, 0x50, 4, 5, 6, 7, 8)), 7, 15);
        refused("offset 256 of 3", frameOf(bytes(0x33, 1, 2, 3, 0, 1, 0x50, 4, 5, 6, 7, 8)), 7, 15);
        refused("offset 1 of 0", frameOf(bytes(0x03, 1, 0, 0x50, 4, 5, 6, 7, 8)), 7, 12);
        Bytes back = bytes(0x13, 1, 2, 0, 0x50, 4, 5, 6, 7, 8);
        refused("into the block before", new Bytes().head(UNLINKED, CODE4).block(goodBlock()).block(back).zeros(), 7, 29);
        Bytes linked = new Bytes().head(LINKED, CODE4).block(goodBlock()).block(back).zeros();
        reads("linked, into the block before", linked, goodOutput().add(1, 8, 1, 8, 1, 8, 1, 8, 4, 5, 6, 7, 8));
        Bytes far = bytes(0x13, 1, 16, 0, 0x50, 4, 5, 6, 7, 8);
        reads("linked, to the frame's beginning", new Bytes().head(LINKED, CODE4).block(goodBlock()).block(far).zeros(),
            goodOutput().add(1, 1, 2, 3, 1, 2, 3, 1, 4, 5, 6, 7, 8));
        Bytes further = bytes(0x13, 1, 17, 0, 0x50, 4, 5, 6, 7, 8);
        refused("linked, beyond the frame's beginning",
            new Bytes().head(LINKED, CODE4).block(goodBlock()).block(further).zeros(), 7, 29);
        refused("linked, into the frame before",
            frameOf(goodBlock()).head(LINKED, CODE4).block(back).zeros(), 7, 27 + 7 + 4 + 2);
        reads("linked, into a RAW block", new Bytes().head(LINKED, CODE4).raw(bytes(9)).block(back).zeros(),
            bytes(9, 1, 9, 1, 9, 1, 9, 1, 9, 4, 5, 6, 7, 8));
    }

    /** A sequence of a literal and a match of n, 19 or more, written as token, literal, offset 1, bytes. */
    private static Bytes longMatch(int n) {
        return bytes(0x1F, 5, 1, 0).run(255, (n - 19) / 255).add((n - 19) % 255);
    }

    private static void tooMuchForBlock() {
        Bytes most = longMatch(65530).add(0x50, 1, 2, 3, 4, 5);
        reads("just MOST", frameOf(most), new Bytes().run(5, 65531).add(1, 2, 3, 4, 5));
        int token = 11 + longMatch(65530).size();
        refused("a literal more than MOST", frameOf(longMatch(65530).add(0x60, 1, 2, 3, 4, 5, 6)), 8, token);
        refused("a match more than MOST", frameOf(longMatch(65536).add(0x50, 1, 2, 3, 4, 5)), 8, 11);
        refused("a match of just MOST, then literals", frameOf(longMatch(65535).add(0x50, 1, 2, 3, 4, 5)), 8,
            11 + longMatch(65535).size());
        refused("a second match more than MOST", frameOf(longMatch(65530).add(0x12, 1, 1, 0, 0x50, 1, 2, 3, 4, 5)), 8, token);
        refused("literals more than MOST and not there",
            frameOf(bytes(0xF0).run(255, 257).add(0)), 8, 11);
        refused("literals of MOST, not there", frameOf(bytes(0xF0).run(255, 256).add(241)), 9, 7);
        refused("literals of MOST and 1, not there", frameOf(bytes(0xF0).run(255, 256).add(242)), 8, 11);
        Bytes code5 = new Bytes().head(UNLINKED, 80).block(longMatch(65536).add(0x50, 1, 2, 3, 4, 5)).zeros();
        reads("more with a larger code", code5, new Bytes().run(5, 65537).add(1, 2, 3, 4, 5));
        Bytes two = new Bytes().head(LINKED, CODE4).block(most).block(most).zeros();
        SequenceFrames x = given(two);
        DUE.is("MOST is of one block", x.read(), 131072);
    }

    private static SequenceFrames nearlyFull(int size) {
        SequenceFrames x = new SequenceFrames();
        x.fill(1, 70000);
        x.fill(1, size - 70000);
        x.pack();
        return x;
    }

    private static void tooMuchForOutput() {
        SequenceFrames x = nearlyFull(139985);
        frameOf(goodBlock()).giveTo(x);
        DUE.is("just 140000", x.read(), 140000);
        x = nearlyFull(139986);
        int begin = x.count(1);
        frameOf(goodBlock()).giveTo(x);
        refused("literals beyond 140000", x, 8, begin + 11 + 6);
        x = nearlyFull(139991);
        begin = x.count(1);
        frameOf(goodBlock()).giveTo(x);
        refused("a match beyond 140000", x, 8, begin + 11);
        DUE.is("OUTPUT stays", x.count(2), 0);
        x = nearlyFull(139998);
        begin = x.count(1);
        new Bytes().head(UNLINKED, CODE4).raw(bytes(1, 2, 3)).zeros().giveTo(x);
        refused("RAW beyond 140000", x, 8, begin + 7);
        x = nearlyFull(139997);
        new Bytes().head(UNLINKED, CODE4).raw(bytes(1, 2, 3)).zeros().giveTo(x);
        DUE.is("RAW up to 140000", x.read(), 140000);
        x = nearlyFull(140000);
        new Bytes().head(UNLINKED, CODE4).raw(new Bytes()).block(bytes(0)).zeros().giveTo(x);
        DUE.is("blocks that stand for none", x.read(), 140000);
        x = nearlyFull(139998);
        begin = x.count(1);
        new Bytes().head(UNLINKED | CHECKS, CODE4).raw(bytes(1, 2, 3)).zeros().giveTo(x);
        x.give(0, 1);
        refused("CHECK before too much", x, 6, begin + 14);
    }

    private static void blockRules() {
        Bytes[] broken = {
            bytes(0x01), bytes(0x0F), bytes(0x21, 1, 2), bytes(0x2F, 1, 2), // lower bits in the last sequence
            bytes(0x30, 1, 2), bytes(0x10), bytes(0xE0, 1), // literals not there
            bytes(0xF0), bytes(0xF0, 255), bytes(0xF0, 255, 255), bytes(0xF0, 0), bytes(0xF0, 0).run(1, 14), // their number
            bytes(0x33, 1, 2, 3, 3), bytes(0x30, 1, 2, 3, 3), // half an offset
            bytes(0x33, 1, 2, 3, 3, 0), // no last sequence
            bytes(0x3F, 1, 2, 3, 3, 0), bytes(0x3F, 1, 2, 3, 3, 0, 255), // the match's number
            bytes(0x3F, 1, 2, 3, 3, 0, 0), bytes(0x3F, 1, 2, 3, 3, 0, 255, 0),
            bytes(0x39, 1, 2, 3, 3, 0, 0x40, 4, 5, 6, 7), // four literals at the end
            bytes(0x39, 1, 2, 3, 3, 0, 0x00),
            bytes(0x32, 1, 2, 3, 3, 0, 0x50, 4, 5, 6, 7, 8), // the last match 11 before the end
            bytes(0x30, 1, 2, 3, 3, 0, 0x70, 4, 5, 6, 7, 8, 9, 10),
            bytes(0x39, 1, 2, 3, 3, 0, 0x00, 3, 0, 0x60, 4, 5, 6, 7, 8, 9)
        };
        for (int i = 0; i < broken.length; i++) {
            refused("broken block " + i, frameOf(broken[i]), 9, 7);
            refused("second broken block " + i,
                new Bytes().head(LINKED, CODE4).block(goodBlock()).block(broken[i]).zeros(), 9, 7 + 16);
        }
        Bytes[] good = {
            bytes(0x33, 1, 2, 3, 3, 0, 0x50, 4, 5, 6, 7, 8), // the last match 12 before the end
            bytes(0x30, 1, 2, 3, 3, 0, 0x80, 4, 5, 6, 7, 8, 9, 10, 11),
            bytes(0x30, 1, 2, 3, 3, 0, 0x03, 1, 0, 0x50, 4, 5, 6, 7, 8)
        };
        for (int i = 0; i < good.length; i++) {
            DUE.holds("good block " + i, given(frameOf(good[i])).read() >= 0);
        }
    }

    private static void sizes() {
        long[] wrong = {0, 14, 16, -1, 15 + (1L << 32), 15 + (1L << 63), Long.MIN_VALUE, Long.MAX_VALUE};
        for (long told : wrong) {
            Bytes frame = new Bytes().head(UNLINKED | SIZE, CODE4, told).block(goodBlock()).zeros();
            refused("SIZE " + told, frame, 10, frame.size() - 4);
        }
        Bytes frame = new Bytes().head(UNLINKED | SIZE, CODE4, 15).block(goodBlock()).zeros();
        Bytes two = new Bytes().add(frame).add(frame);
        reads("SIZE is of one frame", two, goodOutput().add(goodOutput()));
        refused("SIZE before the CHECK of all",
            new Bytes().head(UNLINKED | SIZE | ALL, CODE4, 14).block(goodBlock()).zeros().add(1, 2, 3, 4), 10, 31);
        refused("SIZE before the end of FRAMES",
            new Bytes().head(UNLINKED | SIZE | ALL, CODE4, 14).block(goodBlock()).zeros(), 10, 31);
    }

    private static void orderOfFaults() {
        refused("OFFSET before its number of bytes", frameOf(bytes(0x3F, 1, 2, 3, 0, 0)), 7, 15);
        refused("the end of the block before the OFFSET", frameOf(bytes(0x33, 1, 2, 3, 0)), 9, 7);
        refused("OFFSET before too much", frameOf(bytes(0x1F, 5, 2, 0).run(255, 300).add(0)), 7, 13);
        refused("the match's number before too much", frameOf(bytes(0x1F, 5, 1, 0).run(255, 300)), 9, 7);
        refused("the literals' number before too much", frameOf(bytes(0xF0).run(255, 300)), 9, 7);
        refused("FRAMES' end before the block's faults",
            new Bytes().head(UNLINKED | CHECKS, CODE4).block(bytes(0x01)), 1, 12);
        refused("a block's fault before FRAMES' end", new Bytes().head(UNLINKED, CODE4).block(bytes(0x01)), 9, 7);
        refused("a frame's fault before that of the next", frameOf(bytes(0x01)).add(9, 9, 9, 9), 9, 7);
    }
}
