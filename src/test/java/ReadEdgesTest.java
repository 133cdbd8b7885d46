/** The edges of promises 14 and 15, RULES and FAULTS, sentence by sentence. */
public final class ReadEdgesTest {
    private static final Due DUE = new Due();
    private static final int UNLINKED = 96;
    private static final int LINKED = 64;
    private static final int CHECKS = 16;
    private static final int SIZE = 8;
    private static final int ALL = 4;
    private static final int CODE4 = 64;
    /** Where the first block of a frame without SIZE begins, and the bytes of that block. */
    private static final int BLOCK = 7;
    private static final int TOKEN = 11;

    public static void main(String[] args) {
        framesThatAreEmpty();
        framesOfBothKinds();
        outputIsWhatAllBlocksStandFor();
        outputStaysAsItWas();
        placeIsNoneBeforeAndWithout();
        fault1EndOfFrames();
        fault2FourBytesThatBeginNoFrame();
        fault3Flg();
        fault3Bd();
        fault4Hc();
        fault5MoreThanMost();
        aBlockOfJustMostBytes();
        fault6CheckOfABlock();
        fault7OffsetOf0();
        fault7FurtherThanTheBlock();
        fault7FurtherThanTheFrame();
        offsetOf65535();
        fault8MoreThanMost();
        fault8MoreThan140000();
        fault9BytesEnd();
        fault9LowerBitsOfTheLast();
        fault9FiveLiterals();
        fault9TwelveBytes();
        fault10Size();
        fault11CheckOfAll();
        numbersOf15AndMore();
        blocksThatStandForNone();
        whereTwoCouldBeMet();
        inASequence();
        DUE.end();
    }

    private static Bytes bytes(int... bytes) {
        return new Bytes().add(bytes);
    }

    /** Literals 1, 2, 3; a match of 7 with OFFSET 3; literals 4 .. 8. */
    private static Bytes goodBlock() {
        return bytes(0x33, 1, 2, 3, 3, 0, 0x50, 4, 5, 6, 7, 8);
    }

    private static Bytes goodOutput() {
        return bytes(1, 2, 3, 1, 2, 3, 1, 2, 3, 1, 4, 5, 6, 7, 8);
    }

    private static Bytes head(int flg) {
        return new Bytes().head(flg, CODE4);
    }

    private static Bytes frameOf(Bytes block) {
        return head(UNLINKED).block(block).zeros();
    }

    private static Bytes linkedFrameOf(Bytes first, Bytes second) {
        return head(LINKED).block(first).block(second).zeros();
    }

    /** A fault is the same in a new object, in one that has OUTPUT (which stays), and behind other frames. */
    private static void refused(String what, Bytes frames, int fault, int place) {
        refusedIn("new, " + what, Made.given(frames), fault, place);
        SequenceFrames used = Made.used();
        used.cut(0);
        frames.giveTo(used);
        refusedIn("used, " + what, used, fault, place);
        Bytes before = bytes(0x5A, 42, 77, 24, 2, 0, 0, 0, 1, 2).add(frameOf(goodBlock()));
        refusedIn("behind others, " + what, Made.given(new Bytes().add(before).add(frames)), fault, place + before.size());
    }

    private static void refusedIn(String what, SequenceFrames x, int fault, int place) {
        String before = Told.ofAllButPlace(x);
        DUE.is(what + ", read()", x.read(), -10 - fault);
        DUE.is(what + ", place()", x.place(), place);
        DUE.same(what + ", what is told", Told.ofAllButPlace(x), before);
    }

    private static void reads(String what, Bytes frames, Bytes output) {
        for (SequenceFrames x : new SequenceFrames[] {new SequenceFrames(), Made.used()}) {
            x.cut(0);
            frames.giveTo(x);
            DUE.is(what + ", read()", x.read(), output.size());
            DUE.is(what + ", place()", x.place(), -1);
            DUE.is(what + ", count(2)", x.count(2), output.size());
            DUE.is(what + ", hash of OUTPUT", x.hash(2, 0, output.size(), 0), Model.hashOf(output.toArray(), 0));
        }
    }

    // ---- 14 and 15: what is read, what stays

    private static void framesThatAreEmpty() {
        reads("none", new Bytes(), new Bytes());
        SequenceFrames x = Made.used();
        DUE.holds("OUTPUT before", x.count(2) > 0 && x.count(7) > 0 && x.count(8) > 0 && x.place() >= 0);
        x.cut(0);
        DUE.is("none, read()", x.read(), 0);
        DUE.is("none, count(2)", x.count(2), 0);
        DUE.is("none, count(7)", x.count(7), 0);
        DUE.is("none, count(8)", x.count(8), 0);
        DUE.is("none, place()", x.place(), -1);
        DUE.is("none, octet(2, 0)", x.octet(2, 0), -1);
    }

    private static void framesOfBothKinds() {
        Bytes skipped = bytes(0x50, 42, 77, 24, 3, 0, 0, 0, 4, 34, 77);
        Bytes frame = frameOf(goodBlock());
        reads("a skipped frame alone", skipped, new Bytes());
        reads("two skipped frames", new Bytes().add(skipped).add(skipped), new Bytes());
        reads("a skipped frame behind", new Bytes().add(frame).add(skipped), goodOutput());
        reads("a skipped frame before", new Bytes().add(skipped).add(frame), goodOutput());
        reads("two frames", new Bytes().add(frame).add(frame), goodOutput().add(goodOutput()));
        for (int kind = 0; kind <= 15; kind++) {
            SequenceFrames x = Made.given(bytes(80 + kind, 42, 77, 24, 0, 0, 0, 0).add(frame));
            DUE.is("kind " + kind + ", read()", x.read(), 15);
            DUE.is("kind " + kind + ", count(7)", x.count(7), 2);
            DUE.is("kind " + kind + ", count(8)", x.count(8), 1);
        }
        reads("a frame without blocks", head(UNLINKED).zeros(), new Bytes());
    }

    private static void outputIsWhatAllBlocksStandFor() {
        SequenceFrames x = Made.used();
        x.cut(0);
        head(UNLINKED).raw(bytes(200, 201)).block(bytes(0x10, 202)).zeros().giveTo(x);
        head(LINKED).raw(bytes(203)).zeros().giveTo(x);
        DUE.is("OUTPUT, read()", x.read(), 4);
        for (int i = 0; i < 4; i++) {
            DUE.is("OUTPUT, octet(2, " + i + ")", x.octet(2, i), 200 + i);
        }
        DUE.is("OUTPUT, octet(2, 4)", x.octet(2, 4), -1);
        DUE.is("OUTPUT, count(7)", x.count(7), 2);
        DUE.is("OUTPUT, count(8)", x.count(8), 3);
        DUE.is("read() again", x.read(), 4);
        DUE.is("read() again, count(2)", x.count(2), 4);
        DUE.is("read() again, count(7)", x.count(7), 2);
        DUE.is("read() again, count(8)", x.count(8), 3);
    }

    /** OUTPUT is longer, shorter and of other bytes in what is refused: it stays, and the next read() is not harmed. */
    private static void outputStaysAsItWas() {
        SequenceFrames x = Made.given(head(UNLINKED).raw(bytes(9, 8, 7)).zeros());
        x.read();
        frameOf(goodBlock()).giveTo(x);
        x.give(0x01020304, 4);
        for (int i = 0; i < 3; i++) {
            refusedIn("a fault behind more", x, 2, 18 + 27);
        }
        for (int i = 0; i < 4; i++) {
            DUE.is("OUTPUT stays, octet(2, " + i + ")", x.octet(2, i), i < 3 ? 9 - i : -1);
        }
        x.cut(18 + 27);
        DUE.is("without the fault, read()", x.read(), 18);
        Bytes want = bytes(9, 8, 7).add(goodOutput());
        DUE.is("without the fault, OUTPUT", x.hash(2, 0, 18, 0), Model.hashOf(want.toArray(), 0));
        DUE.is("without the fault, place()", x.place(), -1);
        x.cut(17);
        refusedIn("cut", x, 1, 17);
        DUE.is("OUTPUT stays, count(2)", x.count(2), 18);
        DUE.is("OUTPUT stays", x.hash(2, 0, 18, 0), Model.hashOf(want.toArray(), 0));
    }

    private static void placeIsNoneBeforeAndWithout() {
        SequenceFrames x = new SequenceFrames();
        DUE.is("place() before any read()", x.place(), -1);
        x.give(0x01020304, 4);
        DUE.is("place() before any read() of wrong FRAMES", x.place(), -1);
        x.read();
        DUE.is("place() 0 of a fault", x.place(), 0);
        x.cut(0);
        x.pack();
        x.fill(1, 5);
        DUE.is("place() stays that of the latest read()", x.place(), 0);
        x.read();
        DUE.is("place() when it had none", x.place(), -1);
        x.give(1, 1);
        x.read();
        DUE.is("place() of a fault", x.place(), 12);
        x.cut(11);
        x.read();
        DUE.is("place() when it had none", x.place(), -1);
    }

    // ---- FAULTS 1 to 6

    /** Frames of all options cut everywhere: fault 1 at how many there are, but where a frame ends. */
    private static void fault1EndOfFrames() {
        for (int set = 0; set < 16; set++) {
            SequenceFrames x = new SequenceFrames();
            for (int what = 0; what <= 3; what++) {
                x.option(what, set >> what & 1);
            }
            x.option(5, 13);
            x.fill(97, 13);
            x.fill(98, 3);
            int first = x.pack();
            int second = x.skip(3, 2, 1);
            int all = x.pack();
            DUE.is("whole, read()", x.read(), 32);
            for (int n = all; n >= 0; n--) {
                x.cut(n);
                int want = n == all ? 32 : n == second || n == first ? 16 : n == 0 ? 0 : -11;
                DUE.is("options " + set + " cut to " + n + ", read()", x.read(), want);
                DUE.is("options " + set + " cut to " + n + ", place()", x.place(), want < 0 ? n : -1);
            }
        }
        for (int n = 1; n <= 3; n++) {
            Bytes begin = new Bytes();
            Bytes other = new Bytes();
            for (int i = 0; i < n; i++) {
                begin.add(frameOf(goodBlock()).at(i));
                other.add(200 + i);
            }
            refused(n + " bytes of a frame's beginning", begin, 1, n);
            refused(n + " bytes that begin no frame", other, 1, n);
        }
        long[] follow = {1, 2, 255, 65536, 1L << 24, (1L << 31) - 1, 1L << 31, (1L << 31) + 1, (1L << 32) - 1};
        for (long n : follow) {
            refused("a skipped frame that is to have " + n, bytes(0x50, 42, 77, 24).number(n, 4), 1, 8);
        }
        refused("a skipped frame with one byte too few", bytes(0x50, 42, 77, 24, 3, 0, 0, 0, 1, 2), 1, 10);
        refused("a block with one byte too few", head(UNLINKED).number(13, 4).add(goodBlock()), 1, 23);
        refused("a RAW block with one byte too few", head(UNLINKED).number(3 + (1L << 31), 4).add(1, 2), 1, 13);
    }

    private static void fault2FourBytesThatBeginNoFrame() {
        int[][] wrong = {{0, 0, 0, 0}, {3, 34, 77, 24}, {5, 34, 77, 24}, {4, 33, 77, 24}, {4, 35, 77, 24}, {4, 34, 76, 24},
            {4, 34, 78, 24}, {4, 34, 77, 23}, {4, 34, 77, 25}, {24, 77, 34, 4}, {4, 42, 77, 24}, {79, 42, 77, 24}, {96, 42, 77, 24},
            {80, 41, 77, 24}, {95, 43, 77, 24}, {80, 42, 76, 24}, {95, 42, 77, 25}, {80, 34, 77, 24}, {255, 255, 255, 255}};
        for (int[] w : wrong) {
            refused("four bytes that begin no frame", bytes(w), 2, 0);
            refused("five bytes that begin no frame", bytes(w).add(4), 2, 0);
        }
    }

    private static void fault3Flg() {
        for (int flg : new int[] {0, 32, 44, 128, 160, 192, 224, 236, 255}) {
            refused("FLG " + flg + ": its highest bits are not 01", new Bytes().head(flg, CODE4).zeros(), 3, 4);
        }
        for (int flg : new int[] {97, 98, 99, 65, 66, 67, 125, 126}) {
            refused("FLG " + flg + ": one of its lowest bits is 1", new Bytes().head(flg, CODE4).zeros(), 3, 4);
        }
        refused("FLG at the end of FRAMES", bytes(4, 34, 77, 24, 97), 3, 4);
        refused("FLG before BD", bytes(4, 34, 77, 24, 97, 1), 3, 4);
    }

    private static void fault3Bd() {
        for (int bd : new int[] {65, 66, 68, 72, 79, 113}) {
            refused("BD " + bd + ": one of its lower four is 1", new Bytes().head(UNLINKED, bd).zeros(), 3, 5);
        }
        for (int bd : new int[] {192, 208, 240, 128}) {
            refused("BD " + bd + ": its highest is 1", new Bytes().head(UNLINKED, bd).zeros(), 3, 5);
        }
        for (int bd : new int[] {0, 16, 32, 48}) {
            refused("BD " + bd + ": CODE is below 4", new Bytes().head(UNLINKED, bd).zeros(), 3, 5);
        }
        for (int bd : new int[] {64, 80, 96, 112}) {
            reads("BD " + bd, new Bytes().head(UNLINKED, bd).zeros(), new Bytes());
        }
        refused("BD at the end of FRAMES", bytes(4, 34, 77, 24, 96, 48), 3, 5);
    }

    private static void fault4Hc() {
        for (int bit = 0; bit < 8; bit++) {
            Bytes frame = bytes(4, 34, 77, 24, 96, 64, 130 ^ 1 << bit).zeros();
            refused("HC, bit " + bit, frame, 4, 6);
            Bytes sized = new Bytes().head(UNLINKED | SIZE, CODE4, 0);
            Bytes wrong = new Bytes();
            for (int i = 0; i < 14; i++) {
                wrong.add(sized.at(i));
            }
            refused("HC behind SIZE, bit " + bit, wrong.add(sized.at(14) ^ 1 << bit).zeros(), 4, 14);
        }
        Bytes sized = new Bytes().head(UNLINKED | SIZE, CODE4, 0).zeros();
        for (int i = 6; i < 14; i++) {
            SequenceFrames x = Made.given(sized);
            x.alter(i, 1);
            refusedIn("SIZE, its byte " + (i - 6), x, 4, 14);
        }
    }

    private static void fault5MoreThanMost() {
        for (int code = 4; code <= 7; code++) {
            long most = 1L << (8 + 2 * code);
            Bytes begin = new Bytes().head(UNLINKED, 16 * code);
            for (long raw = 0; raw <= 1L << 31; raw += 1L << 31) {
                refused("MOST of CODE " + code + " and 1", new Bytes().add(begin).number(raw + most + 1, 4).run(0, 9), 5, BLOCK);
                refused("MOST of CODE " + code + " doubled", new Bytes().add(begin).number(raw + 2 * most, 4).run(0, 9), 5, BLOCK);
                refused("2^31 less 1 with CODE " + code, new Bytes().add(begin).number(raw + (1L << 31) - 1, 4), 5, BLOCK);
                refused("just MOST of CODE " + code, new Bytes().add(begin).number(raw + most, 4).run(0, 9), 1, BLOCK + 4 + 9);
            }
        }
        refused("a second block", head(UNLINKED).block(goodBlock()).number(65537, 4), 5, BLOCK + 16);
    }

    /** By pack() and alter(), as so many bytes can't be given: literals packed RAW are read as a block of sequences. */
    private static void aBlockOfJustMostBytes() {
        SequenceFrames x = new SequenceFrames();
        x.feed(0xF0, 1);
        x.fill(255, 255);
        x.feed(239, 1);
        x.mix(4, 15 + 255 * 255 + 239);
        DUE.is("65536 bytes", x.count(0), 65536);
        DUE.is("RAW, pack()", x.pack(), 7 + 4 + 65536 + 4);
        DUE.is("RAW of just MOST bytes, read()", x.read(), 65536);
        x.alter(10, 0);
        DUE.is("just MOST bytes, read()", x.read(), 65279);
        DUE.is("just MOST bytes, OUTPUT", x.hash(2, 0, 65279, 0), x.hash(0, 257, 65279, 0));
        x.alter(7, 1);
        refusedIn("MOST and 1", x, 5, BLOCK);
    }

    private static void fault6CheckOfABlock() {
        Bytes first = head(UNLINKED | CHECKS).block(goodBlock());
        Bytes frame = new Bytes().add(first).check(goodBlock()).raw(bytes(1, 2)).check(bytes(1, 2)).zeros();
        reads("checks", frame, goodOutput().add(1, 2));
        for (int i = 0; i < 32; i++) {
            SequenceFrames x = Made.given(frame);
            int at = first.size() + i / 8;
            x.alter(at, x.octet(1, at) ^ 1 << i % 8);
            refusedIn("CHECK, bit " + i, x, 6, first.size());
            x = Made.given(frame);
            at = first.size() + 4 + 4 + 2 + i / 8;
            x.alter(at, x.octet(1, at) ^ 1 << i % 8);
            refusedIn("CHECK of a RAW block, bit " + i, x, 6, first.size() + 10);
        }
        SequenceFrames x = Made.given(frame);
        x.alter(first.size() - 1, 77);
        refusedIn("a block's last byte", x, 6, first.size());
        refused("CHECK of what it stands for", head(UNLINKED | CHECKS).block(goodBlock()).check(goodOutput()).zeros(), 6, 23);
        refused("a CHECK in a frame without", head(UNLINKED).raw(bytes(1, 2)).check(bytes(1, 2)).zeros(), 5, BLOCK + 6);
    }

    // ---- FAULT 7

    private static void fault7OffsetOf0() {
        refused("OFFSET 0", frameOf(bytes(0x33, 1, 2, 3, 0, 0, 0x50, 4, 5, 6, 7, 8)), 7, TOKEN + 4);
        refused("OFFSET 0, LINKED", linkedFrameOf(goodBlock(), bytes(0x08, 0, 0, 0x50, 4, 5, 6, 7, 8)), 7, TOKEN + 16 + 1);
        reads("OFFSET 1", frameOf(bytes(0x33, 1, 2, 3, 1, 0, 0x50, 4, 5, 6, 7, 8)),
            bytes(1, 2, 3, 3, 3, 3, 3, 3, 3, 3, 4, 5, 6, 7, 8));
        refused("OFFSET 0 behind many literals", frameOf(bytes(0xF3, 5).run(9, 20).add(0, 0, 0x50, 4, 5, 6, 7, 8)), 7, TOKEN + 22);
        refused("OFFSET 0 in the second sequence",
            frameOf(bytes(0x33, 1, 2, 3, 3, 0, 0x03, 0, 0, 0x50, 4, 5, 6, 7, 8)), 7, TOKEN + 7);
    }

    private static void fault7FurtherThanTheBlock() {
        refused("OFFSET 4 of 3", frameOf(bytes(0x33, 1, 2, 3, 4, 0, 0x50, 4, 5, 6, 7, 8)), 7, TOKEN + 4);
        refused("OFFSET 1 of 0", frameOf(bytes(0x08, 1, 0, 0x50, 4, 5, 6, 7, 8)), 7, TOKEN + 1);
        refused("OFFSET 259 of 3", frameOf(bytes(0x33, 1, 2, 3, 3, 1, 0x50, 4, 5, 6, 7, 8)), 7, TOKEN + 4);
        refused("OFFSET 65535 of 3", frameOf(bytes(0x33, 1, 2, 3, 255, 255, 0x50, 4, 5, 6, 7, 8)), 7, TOKEN + 4);
        reads("OFFSET 10 of 10", frameOf(bytes(0x33, 1, 2, 3, 3, 0, 0x03, 10, 0, 0x50, 4, 5, 6, 7, 8)),
            bytes(1, 2, 3, 1, 2, 3, 1, 2, 3, 1, 1, 2, 3, 1, 2, 3, 1, 4, 5, 6, 7, 8));
        refused("OFFSET 11 of 10", frameOf(bytes(0x33, 1, 2, 3, 3, 0, 0x03, 11, 0, 0x50, 4, 5, 6, 7, 8)), 7, TOKEN + 7);
        Bytes back = bytes(0x18, 9, 2, 0, 0x50, 4, 5, 6, 7, 8);
        refused("into the block before", head(UNLINKED).block(goodBlock()).block(back).zeros(), 7, TOKEN + 16 + 2);
        refused("into the RAW block before", head(UNLINKED).raw(bytes(1, 2, 3)).block(back).zeros(), 7, TOKEN + 7 + 2);
    }

    private static void fault7FurtherThanTheFrame() {
        Bytes to16 = bytes(0x18, 9, 16, 0, 0x50, 4, 5, 6, 7, 8);
        Bytes to17 = bytes(0x18, 9, 17, 0, 0x50, 4, 5, 6, 7, 8);
        Bytes output = goodOutput().add(9, 1, 2, 3, 1, 2, 3, 1, 2, 3, 1, 4, 5, 4, 5, 6, 7, 8);
        reads("LINKED, to the frame's beginning", linkedFrameOf(goodBlock(), to16), output);
        refused("LINKED, one further", linkedFrameOf(goodBlock(), to17), 7, TOKEN + 16 + 2);
        reads("LINKED, into a RAW block", head(LINKED).raw(goodOutput()).block(to16).zeros(), output);
        refused("LINKED, one further than a RAW block", head(LINKED).raw(goodOutput()).block(to17).zeros(), 7, TOKEN + 19 + 2);
        reads("LINKED, over a block between",
            head(LINKED).raw(goodOutput().add(50)).block(bytes(0x10, 51)).block(bytes(0x18, 9, 18, 0, 0x50, 4, 5, 6, 7, 8)).zeros(),
            goodOutput().add(50, 51, 9, 1, 2, 3, 1, 2, 3, 1, 2, 3, 1, 4, 5, 4, 5, 6, 7, 8));
        Bytes into = bytes(0x18, 9, 2, 0, 0x50, 4, 5, 6, 7, 8);
        refused("LINKED, into the frame before", head(LINKED).block(goodBlock()).zeros().add(head(LINKED)).block(into).zeros(),
            7, 27 + TOKEN + 2);
        refused("LINKED, first block", head(LINKED).block(into).zeros(), 7, TOKEN + 2);
    }

    /** The farthest that 2 bytes tell, in the second of two LINKED blocks. */
    private static void offsetOf65535() {
        Bytes first = longMatch(65530).add(0x50, 1, 2, 3, 4, 5);
        Bytes second = bytes(0x09, 255, 255, 0x50, 6, 7, 8, 9, 10);
        SequenceFrames x = Made.given(linkedFrameOf(first, second));
        DUE.is("OFFSET 65535, read()", x.read(), 65536 + 18);
        DUE.is("OFFSET 65535, its first", x.octet(2, 65536), 5);
        DUE.is("OFFSET 65535, behind it", x.octet(2, 65549), 6);
        refused("OFFSET 65535 of 65534", linkedFrameOf(longMatch(65528).add(0x50, 1, 2, 3, 4, 5), second), 7,
            TOKEN + longMatch(65528).size() + 6 + 4 + 1);
    }

    // ---- FAULT 8

    /** A sequence of a literal 5 and a match of n, 19 or more, with OFFSET 1. */
    private static Bytes longMatch(int n) {
        return bytes(0x1F, 5, 1, 0).run(255, (n - 19) / 255).add((n - 19) % 255);
    }

    private static void fault8MoreThanMost() {
        Bytes end = bytes(0x50, 1, 2, 3, 4, 5);
        reads("just MOST", frameOf(longMatch(65530).add(end)), new Bytes().run(5, 65531).add(1, 2, 3, 4, 5));
        int second = TOKEN + longMatch(65530).size();
        refused("a literal with which it is MOST and 1", frameOf(longMatch(65531).add(end)), 8, TOKEN + longMatch(65531).size());
        refused("six literals of which one is more", frameOf(longMatch(65530).add(0x60, 1, 2, 3, 4, 5, 6)), 8, second);
        refused("a match with which it is MOST and 1", frameOf(longMatch(65536).add(end)), 8, TOKEN);
        refused("a match with which it is much more", frameOf(longMatch(100000).add(end)), 8, TOKEN);
        refused("a second match with which it is MOST and 1",
            frameOf(longMatch(65530).add(0x12, 1, 1, 0).add(end)), 8, second);
        refused("a second match with which it is MOST, then literals",
            frameOf(longMatch(65530).add(0x10, 1, 1, 0).add(end)), 8, second + 4);
        refused("in a second block", head(UNLINKED).block(goodBlock()).block(longMatch(65536).add(end)).zeros(), 8, TOKEN + 16);
        Bytes most = longMatch(65530).add(end);
        for (int flg : new int[] {LINKED, UNLINKED}) {
            SequenceFrames x = Made.given(head(flg).block(most).block(most).zeros());
            DUE.is("MOST is each block's own, read()", x.read(), 131072);
        }
        for (int code = 5; code <= 7; code++) {
            Bytes head = new Bytes().head(UNLINKED, 16 * code);
            SequenceFrames x = Made.given(new Bytes().add(head).block(longMatch(65536).add(end)).zeros());
            DUE.is("65542 with CODE " + code + ", read()", x.read(), 65542);
            x = Made.given(new Bytes().add(head).block(longMatch(139994).add(end)).zeros());
            DUE.is("140000 with CODE " + code + ", read()", x.read(), 140000);
            refusedIn("140001 with CODE " + code,
                Made.given(new Bytes().add(head).block(longMatch(139995).add(end)).zeros()), 8, TOKEN + longMatch(139995).size());
            refusedIn("a match to 140001 with CODE " + code,
                Made.given(new Bytes().add(head).block(longMatch(140000).add(end)).zeros()), 8, TOKEN);
        }
    }

    /** Frames that stand for n bytes are there, others behind them. */
    private static SequenceFrames standingFor(int n, Bytes behind) {
        SequenceFrames x = new SequenceFrames();
        x.fill(1, 70000);
        x.fill(1, n - 70000);
        x.pack();
        behind.giveTo(x);
        return x;
    }

    private static void fault8MoreThan140000() {
        int before = standingFor(139990, new Bytes()).count(1);
        DUE.is("just 140000, read()", standingFor(139985, frameOf(goodBlock())).read(), 140000);
        refusedIn("last literals beyond", standingFor(139986, frameOf(goodBlock())), 8, before + TOKEN + 6);
        refusedIn("last literals far beyond", standingFor(139990, frameOf(goodBlock())), 8, before + TOKEN + 6);
        refusedIn("a match beyond", standingFor(139991, frameOf(goodBlock())), 8, before + TOKEN);
        refusedIn("a match far beyond", standingFor(139997, frameOf(goodBlock())), 8, before + TOKEN);
        refusedIn("literals beyond", standingFor(139998, frameOf(goodBlock())), 8, before + TOKEN);
        refusedIn("literals beyond, none left", standingFor(140000, frameOf(goodBlock())), 8, before + TOKEN);
        Bytes raw = head(UNLINKED).raw(bytes(1, 2, 3)).zeros();
        DUE.is("RAW to just 140000, read()", standingFor(139997, raw).read(), 140000);
        refusedIn("RAW beyond", standingFor(139998, raw), 8, before + BLOCK);
        refusedIn("RAW beyond, none left", standingFor(140000, raw), 8, before + BLOCK);
        Bytes second = head(UNLINKED).raw(bytes(1)).raw(bytes(2, 3)).zeros();
        refusedIn("a second RAW block beyond", standingFor(139998, second), 8, before + BLOCK + 5);
        DUE.is("a second RAW block to just 140000, read()", standingFor(139997, second).read(), 140000);
    }

    // ---- FAULT 9

    private static void fault9BytesEnd() {
        Bytes[] broken = {bytes(0x10), bytes(0x30, 1, 2), bytes(0xE0).run(1, 13), // literals are not there
            bytes(0xF0), bytes(0xF0, 255), bytes(0xF0, 255, 255), // their number's end is not there
            bytes(0xF0, 0), bytes(0xF0, 0).run(1, 14), bytes(0xF0, 255, 0).run(1, 269), // they are not there
            bytes(0x33, 1, 2, 3, 3), bytes(0x30, 1, 2, 3, 3), // half an OFFSET
            bytes(0x3F, 1, 2, 3, 3, 0), bytes(0x3F, 1, 2, 3, 3, 0, 255), // the match's number's end is not there
            bytes(0x33, 1, 2, 3, 3, 0), bytes(0x3F, 1, 2, 3, 3, 0, 0), // no last sequence
            bytes(0x39, 1, 2, 3, 3, 0, 0x09, 3, 0)};
        for (Bytes block : broken) {
            refused("its bytes end", frameOf(block), 9, BLOCK);
            refused("a second block's bytes end", head(LINKED).block(goodBlock()).block(block).zeros(), 9, BLOCK + 16);
        }
        refused("a literal is taken for one of the block's bytes", frameOf(bytes(0x30, 1, 2)).add(frameOf(goodBlock())), 9, BLOCK);
    }

    private static void fault9LowerBitsOfTheLast() {
        for (int low = 1; low <= 15; low++) {
            refused("lower bits " + low, frameOf(bytes(0x20 | low, 1, 2)), 9, BLOCK);
            refused("lower bits " + low + ", no literals", frameOf(bytes(low)), 9, BLOCK);
            refused("lower bits " + low + ", behind a match",
                frameOf(bytes(0x33, 1, 2, 3, 3, 0, 0x50 | low, 4, 5, 6, 7, 8)), 9, BLOCK);
        }
        reads("lower bits 0", frameOf(bytes(0x20, 1, 2)), bytes(1, 2));
    }

    /** If there is a match, the last sequence has 5 literals or more; else it may have fewer. */
    private static void fault9FiveLiterals() {
        for (int n = 0; n <= 7; n++) {
            Bytes behind = bytes(0x3F, 1, 2, 3, 3, 0, 0, n << 4).upFrom(50, n);
            if (n < 5) {
                refused(n + " last literals", frameOf(behind), 9, BLOCK);
            } else {
                reads(n + " last literals", frameOf(behind),
                    bytes(1, 2, 3, 1, 2, 3, 1, 2, 3, 1, 2, 3, 1, 2, 3, 1, 2, 3, 1, 2, 3, 1).upFrom(50, n));
            }
            reads(n + " literals without a match", frameOf(bytes(n << 4).upFrom(50, n)), new Bytes().upFrom(50, n));
            reads(n + " literals without a match, LINKED behind one with a match",
                linkedFrameOf(goodBlock(), bytes(n << 4).upFrom(50, n)), goodOutput().upFrom(50, n));
        }
    }

    /** The last match begins 12 or more bytes before the end: a match of m, then n literals. */
    private static void fault9TwelveBytes() {
        for (int match = 4; match <= 9; match++) {
            for (int n = 5; n <= 9; n++) {
                Bytes block = bytes(0x30 | match - 4, 1, 2, 3, 1, 0, n << 4).upFrom(50, n);
                String what = "a match of " + match + " and " + n + " literals";
                if (match + n < 12) {
                    refused(what, frameOf(block), 9, BLOCK);
                } else {
                    reads(what, frameOf(block), bytes(1, 2, 3).run(3, match).upFrom(50, n));
                }
            }
        }
        refused("the last of two matches", frameOf(bytes(0x39, 1, 2, 3, 3, 0, 0x00, 3, 0, 0x70).upFrom(50, 7)), 9, BLOCK);
        reads("the last of two matches", frameOf(bytes(0x39, 1, 2, 3, 3, 0, 0x00, 3, 0, 0x80).upFrom(50, 8)),
            bytes(1, 2, 3, 1, 2, 3, 1, 2, 3, 1, 2, 3, 1, 2, 3, 1, 2, 3, 1, 2).upFrom(50, 8));
    }

    // ---- FAULTS 10 and 11

    private static void fault10Size() {
        for (long told : new long[] {0, 14, 16, 15 + 256, 15 + (1L << 32), 15 + (1L << 56), 15 + (1L << 63), -1, -15}) {
            Bytes begin = new Bytes().head(UNLINKED | SIZE, CODE4, told).block(goodBlock());
            refused("SIZE " + told, new Bytes().add(begin).zeros(), 10, begin.size());
        }
        reads("SIZE 15", new Bytes().head(UNLINKED | SIZE, CODE4, 15).block(goodBlock()).zeros(), goodOutput());
        reads("SIZE of two blocks", new Bytes().head(UNLINKED | SIZE, CODE4, 17).block(goodBlock()).raw(bytes(1, 2)).zeros(),
            goodOutput().add(1, 2));
        reads("SIZE 0", new Bytes().head(UNLINKED | SIZE, CODE4, 0).zeros(), new Bytes());
        refused("SIZE 1 of none", new Bytes().head(UNLINKED | SIZE, CODE4, 1).zeros(), 10, 15);
        Bytes sized = new Bytes().head(LINKED | SIZE, CODE4, 15).block(goodBlock()).zeros();
        reads("SIZE is each frame's own", new Bytes().add(sized).add(sized), goodOutput().add(goodOutput()));
    }

    private static void fault11CheckOfAll() {
        Bytes begin = head(UNLINKED | ALL).block(goodBlock()).raw(bytes(1, 2)).zeros();
        Bytes output = goodOutput().add(1, 2);
        Bytes frame = new Bytes().add(begin).check(output);
        reads("CHECK of all", frame, output);
        for (int i = 0; i < 32; i++) {
            SequenceFrames x = Made.given(frame);
            int at = begin.size() + i / 8;
            x.alter(at, x.octet(1, at) ^ 1 << i % 8);
            refusedIn("CHECK of all, bit " + i, x, 11, begin.size());
        }
        refused("CHECK of the last block", new Bytes().add(begin).check(bytes(1, 2)), 11, begin.size());
        reads("CHECK of none", head(UNLINKED | ALL).zeros().add(0x05, 0x5D, 0xCC, 0x02), new Bytes());
        refused("CHECK of none, zeros", head(UNLINKED | ALL).zeros().zeros(), 11, 11);
        reads("CHECK is each frame's own", new Bytes().add(frame).add(frame), new Bytes().add(output).add(output));
    }

    // ---- numbers, blocks of none

    /** To 15 come the bytes behind, up to and with the first that is not 255. */
    private static void numbersOf15AndMore() {
        int[][] more = {{0}, {1}, {254}, {255, 0}, {255, 1}, {255, 254}, {255, 255, 0}, {255, 255, 255, 7}};
        for (int[] m : more) {
            int n = 15;
            for (int b : m) {
                n += b;
            }
            reads(n + " literals", frameOf(bytes(0xF0).add(m).run(3, n)), new Bytes().run(3, n));
            reads("a match of " + (n + 4), frameOf(bytes(0x1F, 3, 1, 0).add(m).add(0x50).run(4, 5)),
                new Bytes().run(3, n + 5).run(4, 5));
        }
        reads("14 literals", frameOf(bytes(0xE0).run(3, 14)), new Bytes().run(3, 14));
        reads("a match of 18", frameOf(bytes(0x1E, 3, 1, 0, 0x50).run(4, 5)), new Bytes().run(3, 19).run(4, 5));
    }

    /** As plainly as the words say it: they are no fault, and they are blocks. */
    private static void blocksThatStandForNone() {
        reads("RAW without bytes", head(UNLINKED).raw(new Bytes()).zeros(), new Bytes());
        reads("a token 0 alone", frameOf(bytes(0)), new Bytes());
        SequenceFrames x = Made.given(head(UNLINKED).raw(new Bytes()).block(bytes(0)).zeros());
        x.read();
        DUE.is("blocks that stand for none, count(8)", x.count(8), 2);
        DUE.is("none left, read()", standingFor(140000, head(UNLINKED).raw(new Bytes()).block(bytes(0)).zeros()).read(), 140000);
    }

    // ---- the first that is met

    private static void whereTwoCouldBeMet() {
        refused("1 before 2", bytes(9, 9, 9), 1, 3);
        refused("2 before 1", bytes(9, 9, 9, 9), 2, 0);
        refused("3 of FLG before 3 of BD", bytes(4, 34, 77, 24, 0, 0, 0), 3, 4);
        refused("3 of BD before 4", bytes(4, 34, 77, 24, 96, 0, 0), 3, 5);
        refused("3 before 1", bytes(4, 34, 77, 24, 104, 65), 3, 5);
        refused("4 before 1", bytes(4, 34, 77, 24, 96, 64, 131), 4, 6);
        refused("1 before 4", bytes(4, 34, 77, 24, 104, 64, 1, 2, 3, 4, 5, 6, 7, 8), 1, 14);
        refused("4 before 5", bytes(4, 34, 77, 24, 96, 64, 131).number(-1, 4), 4, 6);
        refused("5 before 1", head(UNLINKED).number(65537, 4), 5, BLOCK);
        refused("1 before 5", head(UNLINKED).add(255, 255, 255), 1, 10);
        refused("1 before 9", head(UNLINKED).number(3, 4).add(0x01, 0x01), 1, 13);
        refused("1 before 6", head(UNLINKED | CHECKS).block(goodBlock()).add(1, 2, 3), 1, 26);
        refused("1 before 7 with CHECKS", head(UNLINKED | CHECKS).block(bytes(0x03, 0, 0)), 1, 14);
        refused("6 before 7", head(UNLINKED | CHECKS).block(bytes(0x03, 0, 0)).add(1, 2, 3, 4), 6, 14);
        refused("6 before 8", head(UNLINKED | CHECKS).block(longMatch(70000)).add(1, 2, 3, 4), 6, TOKEN + longMatch(70000).size());
        refused("6 before 9", head(UNLINKED | CHECKS).block(bytes(0x01)).add(1, 2, 3, 4), 6, 12);
        Bytes raw = head(UNLINKED | CHECKS).raw(bytes(1, 2, 3)).add(1, 2, 3, 4).zeros();
        int before = standingFor(139998, new Bytes()).count(1);
        refusedIn("6 before 8 of a RAW block", standingFor(139998, raw), 6, before + 14);
        refusedIn("5 before 8 of a RAW block", standingFor(139998, head(UNLINKED).number(65537 + (1L << 31), 4)), 5, before + BLOCK);
        refusedIn("1 before 8 of a RAW block", standingFor(139998, head(UNLINKED).number(3 + (1L << 31), 4).add(1, 2)), 1, before + 13);
        refused("9 before 1", head(UNLINKED).block(bytes(0x01)), 9, BLOCK);
        refused("9 before 5 of the next block", head(UNLINKED).block(bytes(0x01)).number(65537, 4), 9, BLOCK);
        refused("7 before 9 of the next block", head(UNLINKED).block(bytes(0x03, 0, 0)).block(bytes(0x01)).zeros(), 7, TOKEN + 1);
        refused("9 before 10", new Bytes().head(UNLINKED | SIZE, CODE4, 9).block(bytes(0x01)).zeros(), 9, 15);
        refused("10 before 1", new Bytes().head(UNLINKED | SIZE | ALL, CODE4, 9).zeros(), 10, 15);
        refused("10 before 11", new Bytes().head(UNLINKED | SIZE | ALL, CODE4, 9).zeros().add(1, 2, 3, 4), 10, 15);
        refused("1 before 10", new Bytes().head(UNLINKED | SIZE, CODE4, 9).add(0, 0, 0), 1, 18);
        refused("1 before 11", head(UNLINKED | ALL).zeros().add(1, 2, 3), 1, 14);
        refused("11 before 2", head(UNLINKED | ALL).zeros().add(1, 2, 3, 4).add(9, 9, 9, 9), 11, 11);
        refused("10 before 2", new Bytes().head(UNLINKED | SIZE, CODE4, 9).zeros().add(9, 9, 9, 9), 10, 15);
        refused("9 before 2", frameOf(bytes(0x01)).add(9, 9, 9, 9), 9, BLOCK);
    }

    /** Its number of literals, 8 for these, then 9 if they are not there, the offset, its number of bytes, 8 for these. */
    private static void inASequence() {
        refused("9 for the number of literals, before 8", frameOf(bytes(0xF0).run(255, 300)), 9, BLOCK);
        refused("8 for literals, before 9 as they are not there", frameOf(bytes(0xF0).run(255, 257).add(0)), 8, TOKEN);
        refused("8 for one literal more than MOST, not there", frameOf(bytes(0xF0).run(255, 256).add(242)), 8, TOKEN);
        refused("9 for MOST literals that are not there", frameOf(bytes(0xF0).run(255, 256).add(241)), 9, BLOCK);
        int second = TOKEN + longMatch(65530).size();
        refused("8 for literals, before 7", frameOf(longMatch(65530).add(0x60, 1, 2, 3, 4, 5, 6, 0, 0)), 8, second);
        refused("9 for literals that are not there, before 7", frameOf(longMatch(100).add(0x60, 0, 0)), 9, BLOCK);
        refused("9 for half an OFFSET", frameOf(bytes(0x33, 1, 2, 3, 0)), 9, BLOCK);
        refused("7 before 9 for the match's number", frameOf(bytes(0x3F, 1, 2, 3, 0, 0)), 7, TOKEN + 4);
        refused("7 before 9 for the match's number of 255", frameOf(bytes(0x3F, 1, 2, 3, 4, 0, 255, 255)), 7, TOKEN + 4);
        refused("7 before 8 for the match", frameOf(bytes(0x1F, 5, 2, 0).run(255, 300).add(0)), 7, TOKEN + 2);
        refused("9 for the match's number, before 8", frameOf(bytes(0x1F, 5, 1, 0).run(255, 300)), 9, BLOCK);
        refused("8 for the match, before 9 as no sequence is behind", frameOf(longMatch(65536)), 8, TOKEN);
        refused("9 as no sequence is behind MOST", frameOf(longMatch(65535)), 9, BLOCK);
        refused("9 as no sequence is behind MOST, the next block's bytes are none of it",
            head(UNLINKED).block(longMatch(65535)).raw(new Bytes().run(0x50, 0x50)).zeros(), 9, BLOCK);
        refused("9 for the match's number, MOST is near", frameOf(longMatch(65530).add(0x4F, 1, 2, 3, 4, 1, 0)), 9, BLOCK);
        refused("9 for the match's number of 255, MOST is near",
            frameOf(longMatch(65530).add(0x5F, 1, 2, 3, 4, 5, 1, 0, 255)), 9, BLOCK);
        refused("9 for the literals' number, MOST is there", frameOf(longMatch(65535).add(0xF0)), 9, BLOCK);
        refused("7 of the first sequence before 8 of the second",
            frameOf(bytes(0x13, 5, 2, 0).add(longMatch(70000))), 7, TOKEN + 2);
        refused("8 of the first sequence before 7 of the second",
            frameOf(longMatch(70000).add(0x13, 5, 0, 0)), 8, TOKEN);
    }
}
