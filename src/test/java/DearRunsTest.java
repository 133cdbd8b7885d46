/**
 * "An object is used for at most 512 calls": the dearest runs there are, each of just so many calls, with rows
 * nearly full, pack() and read() again and again. Each answer is compared with the Model's.
 */
public final class DearRunsTest {
    private static final Due DUE = new Due();
    private static final int CONTENT_MOST = 140000;
    private static final int FRAMES_MOST = 150000;
    private static final int[] PARTS = {65536, 1, 12, 65535, 13, 40000, 2, 70, 5000};

    public static void main(String[] args) {
        for (int kind = 0; kind <= 3; kind++) {
            fullContentIsPackedWithOtherOptionsEachTime(kind);
            fullContentIsChangedAndPackedEachTime(kind);
        }
        framesAreFullOfBlocksOfOneByte();
        manyFramesWithoutBytes();
        framesAreFullOfSkippedFrames();
        fullFramesAreHarmedAndMendedEachTime();
        framesStandForMoreThanOutputHolds();
        contentGrowsToTheLastByteAndIsPackedOnTheWay();
        fullRowsRefuseToTheLastCall();
        DUE.end();
    }

    /** Until CONTENT has 140000 bytes: by seeds, all the same, again at the furthest offset, again nearby. */
    private static void fillContent(Both both, int kind) {
        both.mix(kind, kind == 2 ? 65535 : 500);
        while (both.contentSize() < CONTENT_MOST) {
            int n = Math.min(70000, CONTENT_MOST - both.contentSize());
            switch (kind) {
                case 0 -> both.mix(n, n);
                case 1 -> both.fill(n, n);
                case 2 -> both.again(65535, n);
                default -> both.again(500, Math.min(n, 35000));
            }
        }
    }

    private static void fullContentIsPackedWithOtherOptionsEachTime(int kind) {
        Both both = new Both(DUE, "full CONTENT of kind " + kind + ", packed with other options");
        fillContent(both, kind);
        for (int round = 0; !both.over(); round++) {
            both.option(round % 4, round / 4 % 2);
            both.option(4, 4 + round % 4);
            both.option(5, PARTS[round % PARTS.length]);
            both.pack();
            both.read();
            both.place();
            for (int what = 1; what <= 8; what++) {
                both.count(what);
            }
            both.lastSequence();
            both.hashOfAll(1);
            both.differs();
            both.cut(0);
        }
    }

    private static void fullContentIsChangedAndPackedEachTime(int kind) {
        Both both = new Both(DUE, "full CONTENT of kind " + kind + ", changed and packed");
        both.option(0, kind % 2);
        both.option(1, 1);
        both.option(3, 1);
        fillContent(both, kind);
        for (int round = 1; !both.over(); round++) {
            both.change(round * 4001 % CONTENT_MOST, round);
            both.pack();
            both.count(3);
            both.read();
            both.differs();
            both.hashOfAll(2);
            both.cut(0);
        }
    }

    /** 29997 blocks of one byte, all RAW, are 149996 bytes: the frame fits in just once. */
    private static void framesAreFullOfBlocksOfOneByte() {
        Both both = new Both(DUE, "FRAMES full of blocks of one byte");
        both.option(5, 1);
        both.mix(5, 29997);
        for (int round = 0; !both.over(); round++) {
            both.option(0, round % 2);
            both.pack();
            both.pack();
            both.read();
            both.count(4);
            both.count(5);
            both.count(8);
            both.lastSequence();
            both.differs();
            both.give(round, 4);
            both.read();
            both.place();
            both.cut(0);
        }
    }

    private static void manyFramesWithoutBytes() {
        Both both = new Both(DUE, "frames without bytes");
        for (int round = 0; !both.over(); round++) {
            both.option(round % 4, round / 4 % 2);
            both.pack();
            both.read();
            both.count(7);
        }
    }

    private static void framesAreFullOfSkippedFrames() {
        Both both = new Both(DUE, "skipped frames");
        for (int round = 0; both.framesSize() < FRAMES_MOST - 1008; round++) {
            both.skip(round % 16, 1000, round);
            both.read();
        }
        both.skip(15, FRAMES_MOST - 8 - both.framesSize(), 255);
        while (!both.over()) {
            both.skip(0, 0, 0);
            both.pack();
            both.read();
            both.count(7);
        }
    }

    private static void fullFramesAreHarmedAndMendedEachTime() {
        Both both = new Both(DUE, "full FRAMES harmed and mended");
        for (int what = 0; what <= 3; what++) {
            both.option(what, 1);
        }
        both.option(5, 9000);
        fillContent(both, 0);
        both.pack();
        both.read();
        while (both.framesSize() < FRAMES_MOST - 1008) {
            both.skip(0, 1000, 1);
        }
        both.skip(0, FRAMES_MOST - 8 - both.framesSize(), 1);
        for (int round = 0; !both.over(); round++) {
            int i = round < 40 ? round : round * 2503 % FRAMES_MOST;
            int before = both.frameByte(i);
            both.alter(i, before + 1 + round % 255);
            both.read();
            both.place();
            both.count(8);
            both.alter(i, before);
            both.read();
        }
    }

    /** Two small frames stand for 140000 bytes; with a third read() is refused, and OUTPUT stays. */
    private static void framesStandForMoreThanOutputHolds() {
        Both both = new Both(DUE, "more than OUTPUT holds");
        both.fill(7, 70000);
        for (int round = 0; !both.over(); round++) {
            both.option(0, round % 2);
            both.pack();
            both.read();
            both.place();
            both.count(2);
            if (round % 5 == 4) {
                both.cut(0);
            }
        }
    }

    private static void contentGrowsToTheLastByteAndIsPackedOnTheWay() {
        Both both = new Both(DUE, "CONTENT that grows");
        both.option(0, 1);
        for (int round = 0; !both.over(); round++) {
            both.mix(round, 150);
            both.again(Math.min(150, both.contentSize()), 3000 + round);
            both.feed(round, 3);
            both.pack();
            both.read();
            both.count(6);
            both.differs();
            both.cut(round % 3 == 0 ? both.framesSize() : 0);
            if (both.framesSize() > 0) {
                both.read();
                both.cut(0);
            }
        }
    }

    private static void fullRowsRefuseToTheLastCall() {
        Both both = new Both(DUE, "full rows");
        fillContent(both, 2);
        both.pack();
        both.read();
        while (both.framesSize() < FRAMES_MOST) {
            int left = FRAMES_MOST - both.framesSize();
            if (left >= 8) {
                both.skip(1, Math.min(1000, left - 8), 2);
            } else {
                both.give(0, left);
            }
        }
        for (int round = 0; !both.over(); round++) {
            both.feed(round, 1 + round % 8);
            both.fill(round, 1 + round % 70000);
            both.again(1 + round, 70000);
            both.mix(round, 1);
            both.give(round, 1 + round % 8);
            both.skip(round % 16, round, 0);
            both.pack();
            both.keep(CONTENT_MOST + 1);
            both.cut(FRAMES_MOST + 1);
            both.count(round % 9);
            both.hashOfAll(round % 3);
        }
    }
}
