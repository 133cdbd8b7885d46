import java.util.Arrays;
import java.util.HashSet;
import java.util.Set;

/** The edges of promise 9, TO FIND, TO PACK and how numbers are written, sentence by sentence. */
public final class PackEdgesTest {
    private static final Due DUE = new Due();

    public static void main(String[] args) {
        emptyContent();
        contentOfOnePartAndAByte();
        noBlockWithoutBytes();
        partsOf1();
        headOfAFrame();
        numbersHaveTheLowestByteFirst();
        checksOfBlocksAndOfAll();
        pNotAboveEMinus12();
        matchNotBeyondEMinus5();
        matchAsLongAsTheBytesAreTheSame();
        matchMayOverlapItself();
        pMinusQNotAbove65535();
        slotIsTheTwelveHighestBits();
        aSlotHasThePlaceThatCameLast();
        placesInsideAMatchAreNotPut();
        withoutPlacesAtTheBeginningOfEachBlock();
        linkedWithoutPlacesAtTheBeginningOfTheFrame();
        rawIfNotLessBytes();
        numbersOfLiterals();
        numbersOfLastLiterals();
        numbersOfMatches();
        fullByOneByte();
        fullTellsWhatWasFound();
        DUE.end();
    }

    private static SequenceFrames fed(Bytes content) {
        SequenceFrames x = new SequenceFrames();
        content.feedTo(x);
        return x;
    }

    private static void framesAre(String when, SequenceFrames x, Bytes want) {
        DUE.is(when + ", count(1)", x.count(1), want.size());
        boolean same = x.hash(1, 0, want.size(), 0) == Model.hashOf(want.toArray(), 0);
        for (int i = 0; i < want.size() && !same; i++) {
            DUE.is(when + ", octet(1, " + i + ")", x.octet(1, i), want.at(i));
        }
        DUE.holds(when + ", hash of FRAMES", same);
    }

    private static void countsAre(String when, SequenceFrames x, int sequences, int blocks, int raw, int matched) {
        DUE.is(when + ", count(3)", x.count(3), sequences);
        DUE.is(when + ", count(4)", x.count(4), blocks);
        DUE.is(when + ", count(5)", x.count(5), raw);
        DUE.is(when + ", count(6)", x.count(6), matched);
    }

    /** Five numbers a sequence: block, place, literals, OFFSET, match; and no sequence more. */
    private static void sequencesAre(String when, SequenceFrames x, int... want) {
        DUE.is(when + ", count(3)", x.count(3), want.length / 5);
        for (int i = 0; i < want.length; i++) {
            DUE.is(when + ", sequence(" + i / 5 + ", " + i % 5 + ")", x.sequence(i / 5, i % 5), want[i]);
        }
        DUE.is(when + ", sequence(" + want.length / 5 + ", 0)", x.sequence(want.length / 5, 0), -1);
    }

    private static int[] joined(int[] first, int[] second) {
        int[] both = Arrays.copyOf(first, first.length + second.length);
        System.arraycopy(second, 0, both, first.length, second.length);
        return both;
    }

    private static void readsAgain(String when, SequenceFrames x) {
        DUE.is(when + ", read()", x.read(), x.count(0));
        DUE.is(when + ", differs()", x.differs(), -1);
    }

    // ---- TO PACK: parts

    private static void emptyContent() {
        SequenceFrames x = new SequenceFrames();
        DUE.is("empty, pack()", x.pack(), 11);
        framesAre("empty", x, new Bytes().add(4, 34, 77, 24, 96, 64, 130, 0, 0, 0, 0));
        countsAre("empty", x, 0, 0, 0, 0);
        sequencesAre("empty", x);
        DUE.is("empty, read()", x.read(), 0);
        DUE.is("empty, frames read", x.count(7), 1);
        DUE.is("empty, blocks read", x.count(8), 0);
        x = new SequenceFrames();
        for (int what = 0; what <= 3; what++) {
            x.option(what, 1);
        }
        DUE.is("empty with all, pack()", x.pack(), 23);
        framesAre("empty with all", x, new Bytes().head(64 + 16 + 8 + 4, 64, 0).zeros().add(0x05, 0x5D, 0xCC, 0x02));
        countsAre("empty with all", x, 0, 0, 0, 0);
        readsAgain("empty with all", x);
        x.fill(97, 13);
        x.pack();
        x.keep(0);
        x.pack();
        countsAre("empty after another", x, 0, 0, 0, 0);
        sequencesAre("empty after another", x);
    }

    /** CONTENT of one PART less a byte, one PART, one PART and a byte, two PARTS, and so on. */
    private static void contentOfOnePartAndAByte() {
        for (int part : new int[] {1, 2, 16, 1000, 65535, 65536}) {
            for (int n : new int[] {part - 1, part, part + 1, 2 * part - 1, 2 * part, 2 * part + 1}) {
                SequenceFrames x = new SequenceFrames();
                x.option(5, part);
                Model m = new Model();
                for (int left = n; left > 0; left = n - x.count(0)) {
                    x.mix(5, Math.min(70000, left));
                    m.mix(5, Math.min(70000, left));
                }
                String when = n + " bytes in parts of " + part;
                Bytes want = new Bytes().head(96, 64);
                int blocks = 0;
                for (int s = 0; s < n; s += part) {
                    Bytes bytes = new Bytes();
                    for (int i = s; i < Math.min(n, s + part); i++) {
                        bytes.add(m.content[i]);
                    }
                    want.raw(bytes);
                    blocks++;
                }
                DUE.is(when + ", pack()", x.pack(), want.zeros().size());
                framesAre(when, x, want);
                DUE.is(when + ", blocks", x.count(4), blocks);
                DUE.is(when + ", RAW blocks", x.count(5), blocks);
                DUE.is(when + ", the last block's number", x.sequence(x.count(3) - 1, 0), blocks - 1);
                readsAgain(when, x);
                DUE.is(when + ", blocks read", x.count(8), blocks);
            }
        }
    }

    private static void noBlockWithoutBytes() {
        for (int blocks = 0; blocks <= 4; blocks++) {
            SequenceFrames x = fed(new Bytes().upFrom(0, 4 * blocks));
            x.option(5, 4);
            DUE.is(blocks + " whole parts, pack()", x.pack(), 7 + 8 * blocks + 4);
            countsAre(blocks + " whole parts", x, blocks, blocks, blocks, 0);
            for (int i = 0; i < blocks; i++) {
                DUE.is("its block " + i + ", how many bytes it has", x.octet(1, 7 + 8 * i), 4);
            }
            readsAgain(blocks + " whole parts", x);
        }
    }

    private static void partsOf1() {
        SequenceFrames x = fed(new Bytes().add(7, 7, 255));
        x.option(5, 1);
        DUE.is("parts of 1, pack()", x.pack(), 26);
        framesAre("parts of 1", x, new Bytes().head(96, 64).raw(new Bytes().add(7)).raw(new Bytes().add(7))
            .raw(new Bytes().add(255)).zeros());
        sequencesAre("parts of 1", x, 0, 0, 1, 0, 0, 1, 1, 1, 0, 0, 2, 2, 1, 0, 0);
        countsAre("parts of 1", x, 3, 3, 3, 0);
        x = new SequenceFrames();
        x.option(5, 1);
        x.fill(3, 28000);
        DUE.is("parts of 1, as many as have room", x.pack(), 7 + 28000 * 5 + 4);
        countsAre("parts of 1, as many as have room", x, 28000, 28000, 28000, 0);
        readsAgain("parts of 1, as many as have room", x);
        DUE.is("parts of 1, blocks read", x.count(8), 28000);
    }

    // ---- A FRAME

    /** These heads are those that the lz4 tool writes, with the HC that it gives them. */
    private static void headOfAFrame() {
        int[][] heads = {{0, 0, 0, 4, 96, 64, 0x82}, {0, 0, 1, 4, 100, 64, 0xA7}, {0, 0, 1, 7, 100, 112, 0xB9},
            {1, 0, 1, 4, 68, 64, 0x5E}};
        for (int[] h : heads) {
            SequenceFrames x = new SequenceFrames();
            x.option(0, h[0]);
            x.option(1, h[1]);
            x.option(3, h[2]);
            x.option(4, h[3]);
            x.pack();
            for (int i = 0; i < 3; i++) {
                DUE.is("head of FLG " + h[4] + ", BD " + h[5] + ", octet(1, " + (4 + i) + ")", x.octet(1, 4 + i), h[4 + i]);
            }
        }
        for (int code = 4; code <= 7; code++) {
            SequenceFrames x = new SequenceFrames();
            x.option(4, code);
            x.pack();
            framesAre("CODE " + code, x, new Bytes().head(96, 16 * code).zeros());
        }
        int[] bits = {32, 16, 8, 4};
        for (int what = 0; what <= 3; what++) {
            SequenceFrames x = new SequenceFrames();
            x.option(what, 1);
            x.pack();
            DUE.is("FLG with option " + what, x.octet(1, 4), what == 0 ? 64 : 96 + bits[what]);
        }
    }

    private static void numbersHaveTheLowestByteFirst() {
        SequenceFrames x = new SequenceFrames();
        x.option(2, 1);
        x.mix(1, 258);
        x.again(258, 700);
        x.mix(2, 65536 - 958);
        x.pack();
        int[] head = {104, 64};
        int[] size = {0, 0, 1, 0, 0, 0, 0, 0};
        for (int i = 0; i < 10; i++) {
            DUE.is("head with SIZE 65536, octet " + i, x.octet(1, 4 + i), i < 2 ? head[i] : size[i - 2]);
        }
        int n = x.count(1) - 15 - 4 - 4;
        int[] blockSize = {n & 255, n >> 8, 0, 0};
        for (int i = 0; i < 4; i++) {
            DUE.is("how many bytes a block has, byte " + i, x.octet(1, 15 + i), blockSize[i]);
        }
        DUE.is("OFFSET, first", x.octet(1, 19 + 2 + 258), 2);
        DUE.is("OFFSET, second", x.octet(1, 19 + 2 + 259), 1);
        readsAgain("numbers", x);
    }

    private static void checksOfBlocksAndOfAll() {
        SequenceFrames x = new SequenceFrames();
        x.option(1, 1);
        x.option(3, 1);
        x.option(5, 13);
        x.fill(97, 15);
        Bytes packed = new Bytes().add(0x13, 97, 1, 0, 0x50).run(97, 5);
        Bytes rest = new Bytes().run(97, 2);
        DUE.is("checks, pack()", x.pack(), 7 + 18 + 10 + 8);
        framesAre("checks", x, new Bytes().head(96 + 16 + 4, 64).block(packed).check(packed).raw(rest).check(rest).zeros()
            .check(new Bytes().run(97, 15)));
        readsAgain("checks", x);
    }

    // ---- TO FIND

    private static void pNotAboveEMinus12() {
        for (int n = 1; n <= 12; n++) {
            SequenceFrames x = new SequenceFrames();
            x.fill(97, n);
            x.pack();
            sequencesAre(n + " same bytes", x, 0, 0, n, 0, 0);
        }
        for (int n = 13; n <= 40; n++) {
            SequenceFrames x = new SequenceFrames();
            x.fill(97, n);
            x.pack();
            sequencesAre(n + " same bytes", x, 0, 0, 1, 1, n - 6, 0, n - 5, 5, 0, 0);
            readsAgain(n + " same bytes", x);
        }
        Bytes twelve = new Bytes().upFrom(1, 12);
        SequenceFrames x = fed(new Bytes().add(twelve).add(twelve));
        x.option(0, 1);
        x.option(5, 12);
        x.pack();
        sequencesAre("a LINKED block of 12", x, 0, 0, 12, 0, 0, 1, 12, 0, 12, 7, 1, 19, 5, 0, 0);
        readsAgain("a LINKED block of 12", x);
        Bytes eleven = new Bytes().upFrom(1, 11);
        x = fed(new Bytes().add(eleven).add(eleven).add(eleven));
        x.option(0, 1);
        x.option(5, 11);
        x.pack();
        sequencesAre("LINKED blocks of 11", x, 0, 0, 11, 0, 0, 1, 11, 11, 0, 0, 2, 22, 11, 0, 0);
        for (int last = 7; last <= 9; last++) {
            x = fed(new Bytes().upFrom(1, 20).upFrom(1, 4).upFrom(60, last));
            x.pack();
            if (last < 8) {
                sequencesAre("a match " + (4 + last) + " before the end", x, 0, 0, 24 + last, 0, 0);
            } else {
                sequencesAre("a match " + (4 + last) + " before the end", x, 0, 0, 20, 20, 4, 0, 24, last, 0, 0);
            }
        }
    }

    private static void matchNotBeyondEMinus5() {
        for (int same = 12; same <= 20; same++) {
            SequenceFrames x = fed(new Bytes().upFrom(1, 20).upFrom(1, same));
            x.pack();
            sequencesAre("the last " + same + " bytes again", x, 0, 0, 20, 20, same - 5, 0, 15 + same, 5, 0, 0);
            readsAgain("the last " + same + " bytes again", x);
        }
        for (int behind = 0; behind <= 7; behind++) {
            SequenceFrames x = fed(new Bytes().upFrom(1, 20).upFrom(1, 15).upFrom(60, behind));
            x.pack();
            int last = Math.max(5, behind);
            sequencesAre("15 again and " + behind + " behind", x, 0, 0, 20, 20, 15 + behind - last, 0, 35 + behind - last, last, 0, 0);
        }
    }

    private static void matchAsLongAsTheBytesAreTheSame() {
        for (int same = 0; same <= 19; same++) {
            SequenceFrames x = fed(new Bytes().upFrom(1, 20).upFrom(1, same).upFrom(60, 14));
            x.pack();
            if (same < 4) {
                sequencesAre(same + " bytes again", x, 0, 0, 34 + same, 0, 0);
            } else {
                sequencesAre(same + " bytes again", x, 0, 0, 20, 20, same, 0, 20 + same, 14, 0, 0);
            }
        }
    }

    private static void matchMayOverlapItself() {
        for (int distance = 1; distance <= 12; distance++) {
            SequenceFrames x = fed(new Bytes().upFrom(1, distance));
            x.again(distance, 40);
            x.pack();
            sequencesAre("again(" + distance + ")", x, 0, 0, distance, distance, 35, 0, distance + 35, 5, 0, 0);
            readsAgain("again(" + distance + ")", x);
        }
    }

    /** Only LINKED blocks reach so far; the blocks' bounds lie elsewhere. */
    private static void pMinusQNotAbove65535() {
        for (int distance : new int[] {65534, 65535, 65536, 65537}) {
            SequenceFrames x = fed(new Bytes().upFrom(0x51, 8));
            x.fill(0, distance - 8);
            new Bytes().upFrom(0x51, 8).feedTo(x);
            x.fill(1, 20);
            x.option(0, 1);
            x.option(5, 60000);
            x.pack();
            String when = "again " + distance + " behind";
            int[] zeros = {0, 0, 9, 1, 59986, 0, 59995, 5, 0, 0, 1, 60000, 0, 59991, distance - 60000};
            int[] found = {1, distance, 0, distance, 8, 1, distance + 8, 1, 1, 14, 1, distance + 23, 5, 0, 0};
            int[] notFound = {1, distance, 9, 1, 14, 1, distance + 23, 5, 0, 0};
            sequencesAre(when, x, joined(zeros, distance <= 65535 ? found : notFound));
            readsAgain(when, x);
        }
    }

    /** The 12 highest bits of the word at a place times P1, reckoned with numbers that don't run over. */
    private static int slot(Bytes b, int i) {
        long word = b.at(i) + (b.at(i + 1) << 8) + (b.at(i + 2) << 16) + ((long) b.at(i + 3) << 24);
        return (int) (word * (2654435761L % 4096) % (1L << 32) + (word * (2654435761L / 4096) % (1L << 20) << 12) >> 20 & 4095);
    }

    private static Bytes four(long word) {
        return new Bytes().number(word, 4);
    }

    /** Whether all places but those of the words that stand at 0, 12 and 24 have slots of their own. */
    private static boolean slotsAreApart(Bytes b, int ofFirst) {
        Set<Integer> seen = new HashSet<>();
        seen.add(ofFirst);
        for (int i = 0; i <= b.size() - 4; i++) {
            if (i % 12 != 0 || i > 24) {
                if (!seen.add(slot(b, i))) {
                    return false;
                }
            }
        }
        return true;
    }

    /** A word, 8 others, a second word, 8 others, the first again, 14 others. */
    private static Bytes twoWords(long first, long second) {
        for (int seed = 0; seed < 200; seed++) {
            Bytes b = new Bytes().add(four(first)).upFrom(seed, 8).add(four(second)).upFrom(seed + 10, 8).add(four(first))
                .upFrom(seed + 20, 14);
            if (slotsAreApart(b, slot(four(first), 0))) {
                return b;
            }
        }
        throw new IllegalStateException("no bytes whose slots are apart");
    }

    /** A second word with the first one's slot takes it away; one whose slot is the next leaves it. */
    private static void slotIsTheTwelveHighestBits() {
        long first = 0xC3A5F017L;
        int ofFirst = slot(four(first), 0);
        int sameSlot = 0;
        int nextSlot = 0;
        for (long word = 0x80010203L; sameSlot + nextSlot < 12; word += 0x01030507L) {
            int of = slot(four(word & 0xFFFFFFFFL), 0);
            if (of == ofFirst && sameSlot < 6) {
                SequenceFrames x = fed(twoWords(first, word & 0xFFFFFFFFL));
                x.pack();
                sequencesAre("a word with the same slot between", x, 0, 0, 42, 0, 0);
                sameSlot++;
            } else if ((of ^ ofFirst) == 1 && nextSlot < 6) {
                SequenceFrames x = fed(twoWords(first, word & 0xFFFFFFFFL));
                x.pack();
                sequencesAre("a word with another slot between", x, 0, 0, 24, 24, 4, 0, 28, 14, 0, 0);
                nextSlot++;
            }
        }
    }

    private static void aSlotHasThePlaceThatCameLast() {
        SequenceFrames x = fed(new Bytes().upFrom(1, 4).upFrom(100, 8).upFrom(1, 4).upFrom(120, 9).upFrom(1, 4).upFrom(140, 14));
        x.pack();
        sequencesAre("a word three times", x, 0, 0, 12, 12, 4, 0, 16, 9, 13, 4, 0, 29, 14, 0, 0);
        readsAgain("a word three times", x);
    }

    private static void placesInsideAMatchAreNotPut() {
        SequenceFrames x = fed(new Bytes().upFrom(1, 8).upFrom(100, 8).upFrom(1, 8).upFrom(120, 8).upFrom(2, 7).upFrom(140, 14));
        x.pack();
        sequencesAre("what was inside a match again", x, 0, 0, 16, 16, 8, 0, 24, 8, 31, 7, 0, 39, 14, 0, 0);
        readsAgain("what was inside a match again", x);
    }

    private static void withoutPlacesAtTheBeginningOfEachBlock() {
        Bytes sixteen = new Bytes().upFrom(1, 16);
        SequenceFrames x = fed(new Bytes().add(sixteen).add(sixteen).add(sixteen));
        x.option(5, 16);
        x.pack();
        sequencesAre("not LINKED", x, 0, 0, 16, 0, 0, 1, 16, 16, 0, 0, 2, 32, 16, 0, 0);
        countsAre("not LINKED", x, 3, 3, 3, 0);
        x.cut(0);
        x.option(0, 1);
        x.pack();
        sequencesAre("LINKED", x, 0, 0, 16, 0, 0, 1, 16, 0, 16, 11, 1, 27, 5, 0, 0, 2, 32, 0, 16, 11, 2, 43, 5, 0, 0);
        countsAre("LINKED", x, 5, 3, 1, 22);
        readsAgain("LINKED", x);
        x = fed(new Bytes().run(9, 16).upFrom(100, 16).run(9, 16));
        x.option(0, 1);
        x.option(5, 16);
        x.pack();
        sequencesAre("LINKED, the block before the last one", x, 0, 0, 1, 1, 10, 0, 11, 5, 0, 0, 1, 16, 16, 0, 0,
            2, 32, 0, 31, 11, 2, 43, 5, 0, 0);
        x = fed(new Bytes().upFrom(1, 16).upFrom(50, 12).upFrom(50, 20));
        x.option(5, 16);
        x.pack();
        sequencesAre("not LINKED, back to the block's first byte", x, 0, 0, 16, 0, 0, 1, 16, 16, 0, 0, 2, 32, 16, 0, 0);
        x.option(5, 32);
        x.keep(16);
        new Bytes().upFrom(50, 16).upFrom(70, 16).upFrom(70, 16).feedTo(x);
        x.pack();
        sequencesAre("not LINKED, back to the block's first byte", x, 0, 0, 32, 0, 0, 1, 32, 16, 16, 11, 1, 59, 5, 0, 0);
    }

    private static void linkedWithoutPlacesAtTheBeginningOfTheFrame() {
        for (int linked = 0; linked <= 1; linked++) {
            SequenceFrames x = fed(new Bytes().upFrom(1, 30));
            x.option(0, linked);
            for (int i = 1; i <= 3; i++) {
                DUE.is("the same frame again", x.pack(), i * (7 + 34 + 4));
                sequencesAre("the same frame again", x, 0, 0, 30, 0, 0);
            }
            x.keep(0);
            new Bytes().upFrom(100, 10).upFrom(1, 30).feedTo(x);
            x.pack();
            sequencesAre("other CONTENT behind", x, 0, 0, 40, 0, 0);
        }
    }

    // ---- RAW, numbers

    /** Literals, some of the first of them again, others: packed into just as many bytes or one less. */
    private static void rawIfNotLessBytes() {
        int[][] justAsMany = {{8, 4, 8}, {14, 4, 14}, {15, 5, 8}, {14, 5, 15}, {15, 6, 15}};
        for (int[] k : justAsMany) {
            int n = k[0] + k[1] + k[2];
            SequenceFrames x = fed(new Bytes().upFrom(1, k[0]).upFrom(1, k[1]).upFrom(60, k[2]));
            DUE.is("just as many bytes, pack()", x.pack(), 7 + 4 + n + 4);
            countsAre("just as many bytes", x, 2, 1, 1, k[1]);
            sequencesAre("just as many bytes", x, 0, 0, k[0], k[0], k[1], 0, k[0] + k[1], k[2], 0, 0);
            framesAre("just as many bytes", x,
                new Bytes().head(96, 64).raw(new Bytes().upFrom(1, k[0]).upFrom(1, k[1]).upFrom(60, k[2])).zeros());
            readsAgain("just as many bytes", x);
            x = fed(new Bytes().upFrom(1, k[0]).upFrom(1, k[1] + 1).upFrom(60, k[2]));
            DUE.is("one byte less, pack()", x.pack(), 7 + 4 + n + 4);
            countsAre("one byte less", x, 2, 1, 0, k[1] + 1);
            DUE.is("one byte less, how many bytes it has", x.octet(1, 7), n);
            DUE.is("one byte less, not RAW", x.octet(1, 10), 0);
            readsAgain("one byte less", x);
        }
        SequenceFrames x = fed(new Bytes().upFrom(1, 14));
        DUE.is("one byte more, pack()", x.pack(), 7 + 4 + 14 + 4);
        DUE.is("one byte more, RAW", x.octet(1, 10), 128);
    }

    private static Bytes more(int n) {
        Bytes b = new Bytes();
        int left = n - 15;
        while (left >= 255) {
            b.add(255);
            left -= 255;
        }
        return left >= 0 ? b.add(left) : b;
    }

    private static Bytes contentOf(SequenceFrames x, int from, int to) {
        Bytes b = new Bytes();
        for (int i = from; i < to; i++) {
            b.add(x.octet(0, i));
        }
        return b;
    }

    /** A number of 15 or more is written with 255 as often as can be, and the rest (perhaps 0) behind. */
    private static void numbersOfLiterals() {
        for (int n : new int[] {6, 13, 14, 15, 16, 17, 268, 269, 270, 271, 272, 300}) {
            SequenceFrames x = new SequenceFrames();
            x.mix(77, n);
            x.again(n, 60);
            x.pack();
            Bytes block = new Bytes().add(Math.min(n, 15) << 4 | 15).add(more(n)).add(contentOf(x, 0, n)).number(n, 2)
                .add(55 - 19).add(0x50).add(contentOf(x, n + 55, n + 60));
            framesAre(n + " literals", x, new Bytes().head(96, 64).block(block).zeros());
            readsAgain(n + " literals", x);
        }
        for (int n : new int[] {524, 525, 526, 779, 780, 781, 15 + 255 * 250, 14 + 255 * 250}) {
            SequenceFrames x = new SequenceFrames();
            x.mix(77, n - 1);
            x.fill(9, 1000);
            x.pack();
            DUE.is(n + " literals, sequence(0, 2)", x.sequence(0, 2), n);
            DUE.is(n + " literals, token", x.octet(1, 11), 0xFF);
            Bytes want = more(n);
            for (int i = 0; i < want.size(); i++) {
                DUE.is(n + " literals, byte " + i + " behind the token", x.octet(1, 12 + i), want.at(i));
            }
            readsAgain(n + " literals", x);
        }
    }

    private static void numbersOfLastLiterals() {
        for (int n : new int[] {5, 6, 13, 14, 15, 16, 17, 268, 269, 270, 271, 272, 300}) {
            SequenceFrames x = new SequenceFrames();
            x.fill(9, 30);
            x.mix(77, n);
            x.pack();
            Bytes block = new Bytes().add(0x1F, 9, 1, 0, 29 - 19).add(Math.min(n, 15) << 4).add(more(n))
                .add(contentOf(x, 30, 30 + n));
            framesAre(n + " last literals", x, new Bytes().head(96, 64).block(block).zeros());
            readsAgain(n + " last literals", x);
        }
    }

    private static void numbersOfMatches() {
        for (int match : new int[] {7, 8, 17, 18, 19, 20, 21, 272, 273, 274, 275, 527, 528, 529, 530, 783, 784, 785,
            19 + 255 * 256, 18 + 255 * 256, 65530}) {
            SequenceFrames x = new SequenceFrames();
            x.fill(9, Math.min(65536, match + 6));
            x.pack();
            Bytes block = new Bytes().add(0x10 | Math.min(match - 4, 15), 9, 1, 0).add(more(match - 4)).add(0x50).run(9, 5);
            framesAre("a match of " + match, x, new Bytes().head(96, 64).block(block).zeros());
            readsAgain("a match of " + match, x);
        }
    }

    // ---- FULL

    /** Each option has bytes of its own in the frame: the room is one too little, then just enough. */
    private static void fullByOneByte() {
        for (int set = 0; set < 16; set++) {
            SequenceFrames x = new SequenceFrames();
            for (int what = 0; what <= 3; what++) {
                x.option(what, set >> what & 1);
            }
            x.option(5, 13);
            x.fill(97, 13);
            x.fill(98, 3);
            int blocks = (4 + 10) + (4 + 3) + ((set & 2) != 0 ? 8 : 0);
            int size = 7 + blocks + 4 + ((set & 4) != 0 ? 8 : 0) + ((set & 8) != 0 ? 4 : 0);
            Made.framesTo(x, 150001 - size);
            long before = x.hash(1, 0, 150001 - size, 0);
            DUE.is("options " + set + ", one too little, pack()", x.pack(), -2);
            DUE.is("options " + set + ", one too little, count(1)", x.count(1), 150001 - size);
            DUE.is("options " + set + ", one too little, FRAMES", x.hash(1, 0, 150001 - size, 0), before);
            countsAre("options " + set + ", one too little", x, 3, 2, 1, 7);
            x.cut(150000 - size);
            DUE.is("options " + set + ", just enough, pack()", x.pack(), 150000);
            countsAre("options " + set + ", just enough", x, 3, 2, 1, 7);
            DUE.is("options " + set + ", just enough, last byte of its zeros", x.octet(1, 149999 - ((set & 8) != 0 ? 4 : 0)), 0);
        }
    }

    /** FULL (of this the sequences found, and 3 to 6 of count(), are told all the same). */
    private static void fullTellsWhatWasFound() {
        SequenceFrames x = Made.used();
        String options = Told.options(x);
        int[] counts = new int[9];
        for (int what = 0; what <= 8; what++) {
            counts[what] = x.count(what);
        }
        Made.framesTo(x, 149980);
        int place = x.place();
        long frames = x.hash(1, 0, 149980, 0);
        long output = x.hash(2, 0, counts[2], 0);
        x.keep(0);
        x.fill(97, 26);
        x.feed(0x010203, 3);
        x.option(5, 13);
        x.option(0, 0);
        DUE.is("FULL, pack()", x.pack(), -2);
        sequencesAre("FULL", x, 0, 0, 1, 1, 7, 0, 8, 5, 0, 0, 1, 13, 1, 1, 7, 1, 21, 5, 0, 0, 2, 26, 3, 0, 0);
        countsAre("FULL", x, 5, 3, 1, 14);
        DUE.is("FULL, count(0)", x.count(0), 29);
        DUE.is("FULL, count(1)", x.count(1), 149980);
        DUE.is("FULL, FRAMES", x.hash(1, 0, 149980, 0), frames);
        DUE.is("FULL, count(2)", x.count(2), counts[2]);
        DUE.is("FULL, OUTPUT", x.hash(2, 0, counts[2], 0), output);
        DUE.is("FULL, count(7)", x.count(7), counts[7]);
        DUE.is("FULL, count(8)", x.count(8), counts[8]);
        DUE.is("FULL, place()", x.place(), place);
        x.option(5, 40);
        x.option(0, 1);
        DUE.same("FULL, options", Told.options(x), options);
        x.keep(0);
        DUE.is("FULL, pack() of none", x.pack(), -2);
        countsAre("FULL, pack() of none", x, 0, 0, 0, 0);
        sequencesAre("FULL, pack() of none", x);
    }
}
