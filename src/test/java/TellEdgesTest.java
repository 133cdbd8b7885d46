/** The edges of promises 16, 17, 18 and 20, sentence by sentence. */
public final class TellEdgesTest {
    private static final Due DUE = new Due();
    private static final int LEAST = Integer.MIN_VALUE;
    private static final int MOST = Integer.MAX_VALUE;

    public static void main(String[] args) {
        countIs0BeforeAny();
        countIsNoneForOthers();
        countsOfRows();
        countsOfTheLatestPack();
        countsOfTheLatestReadWithoutAFault();
        octetOfEachRow();
        octetIsNoneWhenThereIsNone();
        octetOfBytesThatAreGone();
        sequenceBeforeAnyPack();
        sequenceOfTheLatestPack();
        sequenceWithoutLiterals();
        lastSequencesOfBlocks();
        sequenceOfRawBlocks();
        sequenceIsNoneWhenThereIsNone();
        asManySequencesAsCanBe();
        differsAtTheFirstPlace();
        differsWhereOneEnds();
        differsIsNoneWhenTheyAreTheSame();
        tellingChangesNothing();
        DUE.end();
    }

    private static void countsAre(String when, SequenceFrames x, int first, int... want) {
        for (int i = 0; i < want.length; i++) {
            DUE.is(when + ", count(" + (first + i) + ")", x.count(first + i), want[i]);
        }
    }

    // ---- 16: count

    private static void countIs0BeforeAny() {
        SequenceFrames x = new SequenceFrames();
        countsAre("new", x, 0, 0, 0, 0, 0, 0, 0, 0, 0, 0);
        x.feed(1, 1);
        x.give(1, 1);
        countsAre("before any pack() and read()", x, 2, 0, 0, 0, 0, 0, 0, 0);
        x.pack();
        countsAre("before any read()", x, 2, 0, 1, 1, 1, 0, 0, 0);
        x.read();
        countsAre("before any read() without a fault", x, 7, 0, 0);
        x = new SequenceFrames();
        x.skip(0, 1, 1);
        x.read();
        countsAre("before any pack()", x, 3, 0, 0, 0, 0, 1, 0);
    }

    private static void countIsNoneForOthers() {
        for (int what : new int[] {-1, 9, 10, -8, 256, LEAST, MOST}) {
            DUE.refused("new, count(" + what + ")", new SequenceFrames(), x -> x.count(what), -1);
            DUE.refused("used, count(" + what + ")", Made.used(), x -> x.count(what), -1);
        }
    }

    private static void countsOfRows() {
        SequenceFrames x = new SequenceFrames();
        x.fill(1, 5);
        x.give(1, 3);
        countsAre("rows", x, 0, 5, 3, 0);
        x.cut(0);
        x.pack();
        x.read();
        countsAre("rows", x, 0, 5, 7 + 9 + 4, 5);
        x.keep(2);
        x.cut(6);
        countsAre("rows", x, 0, 2, 6, 5);
        x = Made.withContent(140000);
        x.pack();
        x.read();
        countsAre("rows", x, 0, 140000, 7 + 12 + 140000 + 4, 140000);
    }

    /** 3 to 6 are of the latest pack(), not of all, and stay whatever becomes of CONTENT and FRAMES. */
    private static void countsOfTheLatestPack() {
        SequenceFrames x = new SequenceFrames();
        x.fill(97, 29);
        x.option(5, 13);
        x.pack();
        countsAre("first pack()", x, 3, 5, 3, 1, 14);
        x.keep(13);
        x.cut(0);
        x.option(5, 65536);
        x.read();
        countsAre("still the first pack()", x, 3, 5, 3, 1, 14);
        x.pack();
        countsAre("second pack()", x, 3, 2, 1, 0, 7);
        x.pack();
        countsAre("third pack()", x, 3, 2, 1, 0, 7);
        x.keep(12);
        x.pack();
        countsAre("fourth pack()", x, 3, 1, 1, 1, 0);
        x.keep(0);
        x.pack();
        countsAre("pack() of none", x, 3, 0, 0, 0, 0);
    }

    private static void countsOfTheLatestReadWithoutAFault() {
        SequenceFrames x = new SequenceFrames();
        x.fill(97, 29);
        x.option(5, 13);
        x.pack();
        x.skip(0, 0, 0);
        x.skip(15, 9, 1);
        x.pack();
        x.read();
        countsAre("two frames and two skipped", x, 7, 4, 6);
        x.read();
        countsAre("read again", x, 7, 4, 6);
        x.give(7, 1);
        x.read();
        countsAre("read with a fault", x, 7, 4, 6);
        x.cut(x.count(1) - 1);
        x.alter(4, 0);
        x.read();
        countsAre("read with another fault", x, 7, 4, 6);
        x.cut(0);
        x.skip(0, 0, 0);
        x.read();
        countsAre("a skipped frame alone", x, 7, 1, 0);
        x.cut(0);
        x.read();
        countsAre("none", x, 7, 0, 0);
    }

    // ---- 17: octet

    private static SequenceFrames threeRows() {
        SequenceFrames x = new SequenceFrames();
        x.feed(0x80FF, 2);
        x.pack();
        x.read();
        x.change(0, 1);
        return x;
    }

    private static void octetOfEachRow() {
        SequenceFrames x = threeRows();
        int[][] rows = {{1, 255, -1}, {4, 34, 77, 24, 96, 64, 130, 2, 0, 0, 128, 128, 255, 0, 0, 0, 0, -1}, {128, 255, -1}};
        for (int row = 0; row <= 2; row++) {
            for (int i = 0; i < rows[row].length; i++) {
                DUE.is("octet(" + row + ", " + i + ")", x.octet(row, i), rows[row][i]);
            }
        }
        x = new SequenceFrames();
        new Bytes().upFrom(0, 256).feedTo(x);
        for (int b = 0; b <= 255; b++) {
            DUE.is("octet(0, " + b + ") of each byte", x.octet(0, b), b);
        }
    }

    private static void octetIsNoneWhenThereIsNone() {
        int[] sizes = {2, 17, 2};
        for (int row = 0; row <= 2; row++) {
            for (int i : new int[] {-1, sizes[row], sizes[row] + 1, 139999, 140000, 149999, 150000, LEAST, MOST}) {
                int r = row;
                DUE.refused("octet(" + row + ", " + i + ")", threeRows(), x -> x.octet(r, i), -1);
                DUE.is("new, octet(" + row + ", " + i + ")", new SequenceFrames().octet(row, i), -1);
            }
        }
        for (int row : new int[] {-1, 3, 4, 256, LEAST, MOST}) {
            for (int i : new int[] {0, 1, -1}) {
                DUE.refused("octet(" + row + ", " + i + ")", threeRows(), x -> x.octet(row, i), -1);
            }
        }
        SequenceFrames x = Made.withContent(140000);
        x.pack();
        x.read();
        for (int row = 0; row <= 2; row += 2) {
            DUE.holds("octet(" + row + ", 139999) of 140000", x.octet(row, 139999) >= 0);
            DUE.is("octet(" + row + ", 140000) of 140000", x.octet(row, 140000), -1);
        }
        x = Made.withFrames(150000);
        DUE.is("octet(1, 149999) of 150000", x.octet(1, 149999), 7);
        DUE.is("octet(1, 150000) of 150000", x.octet(1, 150000), -1);
    }

    private static void octetOfBytesThatAreGone() {
        SequenceFrames x = threeRows();
        x.keep(1);
        DUE.is("keep(1), octet(0, 1)", x.octet(0, 1), -1);
        x.cut(0);
        DUE.is("cut(0), octet(1, 0)", x.octet(1, 0), -1);
        x.pack();
        x.read();
        DUE.is("a shorter OUTPUT, octet(2, 0)", x.octet(2, 0), 1);
        DUE.is("a shorter OUTPUT, octet(2, 1)", x.octet(2, 1), -1);
    }

    // ---- 18: sequence

    private static void sequencesAre(String when, SequenceFrames x, int... want) {
        for (int i = 0; i < want.length; i++) {
            DUE.is(when + ", sequence(" + i / 5 + ", " + i % 5 + ")", x.sequence(i / 5, i % 5), want[i]);
        }
        for (int what = 0; what <= 4; what++) {
            DUE.is(when + ", sequence(" + want.length / 5 + ", " + what + ")", x.sequence(want.length / 5, what), -1);
        }
    }

    private static void sequenceBeforeAnyPack() {
        SequenceFrames x = new SequenceFrames();
        sequencesAre("new", x);
        x.fill(97, 20);
        sequencesAre("before any pack()", x);
    }

    private static void sequenceOfTheLatestPack() {
        SequenceFrames x = new SequenceFrames();
        x.fill(97, 29);
        x.option(5, 13);
        x.pack();
        int[] want = {0, 0, 1, 1, 7, 0, 8, 5, 0, 0, 1, 13, 1, 1, 7, 1, 21, 5, 0, 0, 2, 26, 3, 0, 0};
        sequencesAre("pack()", x, want);
        x.keep(0);
        x.cut(0);
        x.option(5, 1);
        x.fill(3, 9);
        x.skip(1, 2, 3);
        x.read();
        sequencesAre("still of that pack()", x, want);
        x.option(5, 9);
        x.pack();
        sequencesAre("the latest pack()", x, 0, 0, 9, 0, 0);
        x.keep(0);
        x.pack();
        sequencesAre("pack() of none", x);
    }

    /** The place of its first literal, or where it would be. */
    private static void sequenceWithoutLiterals() {
        SequenceFrames x = new SequenceFrames();
        new Bytes().upFrom(1, 8).upFrom(100, 8).upFrom(1, 8).upFrom(100, 8).upFrom(140, 12).feedTo(x);
        x.pack();
        sequencesAre("one match of all", x, 0, 0, 16, 16, 16, 0, 32, 12, 0, 0);
        x = new SequenceFrames();
        new Bytes().upFrom(1, 8).upFrom(100, 8).upFrom(50, 8).upFrom(1, 8).upFrom(50, 8).upFrom(140, 12).feedTo(x);
        x.pack();
        sequencesAre("a match behind a match", x, 0, 0, 24, 24, 8, 0, 32, 0, 16, 8, 0, 40, 12, 0, 0);
    }

    private static void lastSequencesOfBlocks() {
        SequenceFrames x = new SequenceFrames();
        x.fill(97, 52);
        x.option(5, 13);
        x.pack();
        for (int block = 0; block < 4; block++) {
            int last = 2 * block + 1;
            DUE.is("block " + block + ", its last", x.sequence(last, 0), block);
            DUE.is("block " + block + ", its last one's place", x.sequence(last, 1), 13 * block + 8);
            DUE.is("block " + block + ", its last one's literals", x.sequence(last, 2), 5);
            DUE.is("block " + block + ", its last one's OFFSET", x.sequence(last, 3), 0);
            DUE.is("block " + block + ", its last one's match", x.sequence(last, 4), 0);
            DUE.is("block " + block + ", the one before, its match", x.sequence(last - 1, 4), 7);
        }
    }

    private static void sequenceOfRawBlocks() {
        SequenceFrames x = new SequenceFrames();
        new Bytes().upFrom(1, 8).upFrom(1, 4).upFrom(60, 8).feedTo(x);
        x.pack();
        countsAre("RAW with a match", x, 3, 2, 1, 1, 4);
        sequencesAre("RAW with a match", x, 0, 0, 8, 8, 4, 0, 12, 8, 0, 0);
        x = new SequenceFrames();
        new Bytes().upFrom(1, 9).feedTo(x);
        x.option(5, 4);
        x.pack();
        countsAre("RAW blocks", x, 3, 3, 3, 3, 0);
        sequencesAre("RAW blocks", x, 0, 0, 4, 0, 0, 1, 4, 4, 0, 0, 2, 8, 1, 0, 0);
    }

    private static void sequenceIsNoneWhenThereIsNone() {
        int n = Made.used().count(3);
        for (int i : new int[] {-1, n, n + 1, 139999, 140000, 140001, LEAST, MOST}) {
            for (int what = 0; what <= 4; what++) {
                int w = what;
                DUE.refused("sequence(" + i + ", " + what + ")", Made.used(), x -> x.sequence(i, w), -1);
            }
        }
        for (int what : new int[] {-1, 5, 6, -4, 256, LEAST, MOST}) {
            DUE.refused("sequence(0, " + what + ")", Made.used(), x -> x.sequence(0, what), -1);
            DUE.refused("the last's, sequence(" + (n - 1) + ", " + what + ")", Made.used(), x -> x.sequence(n - 1, what), -1);
        }
    }

    private static void asManySequencesAsCanBe() {
        SequenceFrames x = Made.withContent(140000);
        x.option(5, 1);
        DUE.is("parts of 1, pack()", x.pack(), -2);
        countsAre("parts of 1", x, 3, 140000, 140000, 140000, 0);
        for (int i : new int[] {0, 1, 65535, 65536, 139998, 139999}) {
            int[] want = {i, i, 1, 0, 0};
            for (int what = 0; what <= 4; what++) {
                DUE.is("parts of 1, sequence(" + i + ", " + what + ")", x.sequence(i, what), want[what]);
            }
        }
        DUE.is("parts of 1, sequence(140000, 0)", x.sequence(140000, 0), -1);
        DUE.is("parts of 1, sequence(140000, 1)", x.sequence(140000, 1), -1);
    }

    // ---- 20: differs

    /** OUTPUT of 1, 2, .. n, and CONTENT as well. */
    private static SequenceFrames bothOf(int n) {
        SequenceFrames x = new SequenceFrames();
        new Bytes().upFrom(1, n).feedTo(x);
        x.pack();
        x.read();
        return x;
    }

    private static void differsAtTheFirstPlace() {
        for (int i = 0; i < 20; i++) {
            SequenceFrames x = bothOf(20);
            x.change(i, 128 + i);
            DUE.is("change at " + i + ", differs()", x.differs(), i);
            x.change(19, 255);
            DUE.is("changes at " + i + " and 19, differs()", x.differs(), i);
            x.change(0, 255);
            DUE.is("changes at 0 too, differs()", x.differs(), 0);
        }
        SequenceFrames x = Made.withContent(140000);
        x.pack();
        x.read();
        x.change(139999, x.octet(0, 139999) + 1);
        DUE.is("change at 139999, differs()", x.differs(), 139999);
    }

    private static void differsWhereOneEnds() {
        for (int n = 0; n < 20; n++) {
            SequenceFrames x = bothOf(20);
            x.keep(n);
            DUE.is("CONTENT ends at " + n + ", differs()", x.differs(), n);
            x = bothOf(n);
            x.feed(200, 1);
            DUE.is("OUTPUT ends at " + n + ", differs()", x.differs(), n);
            x.feed(0, 8);
            DUE.is("OUTPUT ends at " + n + ", CONTENT much later, differs()", x.differs(), n);
        }
        SequenceFrames x = bothOf(20);
        x.keep(10);
        x.change(4, 99);
        DUE.is("another byte before the end, differs()", x.differs(), 4);
        x = bothOf(20);
        x.feed(0, 1);
        x.change(4, 99);
        DUE.is("another byte before OUTPUT's end, differs()", x.differs(), 4);
    }

    private static void differsIsNoneWhenTheyAreTheSame() {
        DUE.is("new, differs()", new SequenceFrames().differs(), -1);
        for (int n = 0; n <= 20; n++) {
            DUE.is("both of " + n + ", differs()", bothOf(n).differs(), -1);
        }
        SequenceFrames x = bothOf(20);
        x.change(3, 99);
        x.change(3, 4);
        DUE.is("changed and changed back, differs()", x.differs(), -1);
        x.keep(0);
        x.cut(0);
        x.read();
        DUE.is("both empty again, differs()", x.differs(), -1);
        x = Made.withContent(140000);
        x.pack();
        x.read();
        DUE.is("both of 140000, differs()", x.differs(), -1);
    }

    private static void tellingChangesNothing() {
        SequenceFrames x = Made.used();
        String before = Told.of(x);
        for (int i = 0; i < 5; i++) {
            DUE.same("told again", Told.of(x), before);
        }
    }
}
