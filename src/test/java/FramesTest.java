/** Promises 8 to 13: FRAMES written, but for reading them. */
public final class FramesTest {
    private static final Due DUE = new Due();

    public static void main(String[] args) {
        option();
        packEachOption();
        packNumbers();
        packParts();
        packLinked();
        packRawWithMatch();
        packOffsetMost();
        packFull();
        packIntoJustTheRoom();
        skip();
        give();
        alter();
        cut();
        DUE.end();
    }

    /** By count() and hash(), so that a run keeps within its 512 calls; by octet() where these are wrong. */
    private static void framesAre(SequenceFrames x, String call, Bytes want) {
        DUE.is(call + ", count(1)", x.count(1), want.size());
        if (x.hash(1, 0, want.size(), 0) != Model.hashOf(want.toArray(), 0)) {
            for (int i = 0; i < want.size(); i++) {
                DUE.is(call + ", octet(1, " + i + ")", x.octet(1, i), want.at(i));
            }
            DUE.holds(call + ", hash(1, 0, " + want.size() + ", 0)", false);
        }
    }

    private static void option() {
        SequenceFrames x = new SequenceFrames();
        for (int what = 0; what <= 3; what++) {
            DUE.is("option " + what + " = 1", x.option(what, 1), 0);
            DUE.is("option " + what + " = 2", x.option(what, 2), -1);
            DUE.is("option " + what + " = -1", x.option(what, -1), -1);
            DUE.is("option " + what + " = 0", x.option(what, 0), 1);
            DUE.is("option " + what + " = 0 again", x.option(what, 0), 0);
        }
        DUE.is("code 3", x.option(4, 3), -1);
        DUE.is("code 8", x.option(4, 8), -1);
        DUE.is("code 7", x.option(4, 7), 4);
        DUE.is("code 4", x.option(4, 4), 7);
        DUE.is("part 0", x.option(5, 0), -1);
        DUE.is("part 65537", x.option(5, 65537), -1);
        DUE.is("part least", x.option(5, Integer.MIN_VALUE), -1);
        DUE.is("part 1", x.option(5, 1), 65536);
        DUE.is("part 65536", x.option(5, 65536), 1);
        for (int what : new int[] {-1, 6, Integer.MIN_VALUE, Integer.MAX_VALUE}) {
            DUE.is("option " + what, x.option(what, 1), -1);
            DUE.is("option " + what, x.option(what, 4), -1);
        }
    }

    /** 13 times 97: a literal, a match of 7 with offset 1, five literals. */
    private static Bytes thirteen() {
        return new Bytes().add(0x13, 97, 1, 0, 0x50, 97, 97, 97, 97, 97);
    }

    private static void packEachOption() {
        for (int set = 0; set < 16; set++) {
            for (int code = 4; code <= 7; code++) {
                SequenceFrames x = new SequenceFrames();
                x.fill(97, 13);
                for (int what = 0; what < 4; what++) {
                    x.option(what, set >> what & 1);
                }
                x.option(4, code);
                boolean linked = (set & 1) != 0;
                boolean checks = (set & 2) != 0;
                boolean size = (set & 4) != 0;
                boolean all = (set & 8) != 0;
                int flg = 64 + (linked ? 0 : 32) + (checks ? 16 : 0) + (size ? 8 : 0) + (all ? 4 : 0);
                Bytes want = new Bytes().head(flg, 16 * code, 13).block(thirteen());
                if (checks) {
                    want.check(thirteen());
                }
                want.zeros();
                if (all) {
                    want.check(new Bytes().run(97, 13));
                }
                DUE.is("pack() with " + set, x.pack(), want.size());
                framesAre(x, "pack() with " + set, want);
                DUE.is("read() with " + set, x.read(), 13);
                DUE.is("differs() with " + set, x.differs(), -1);
            }
        }
    }

    /** A number of literals and a match's length on both sides of each step of their writing. */
    private static void packNumbers() {
        for (int n : new int[] {1, 14, 15, 16, 269, 270, 271, 524, 525, 526}) {
            SequenceFrames x = new SequenceFrames();
            Model m = new Model();
            x.mix(77, n);
            m.mix(77, n);
            x.again(n, 30);
            m.again(n, 30);
            Bytes block = new Bytes().add(Math.min(n, 15) << 4 | 15);
            if (n >= 15) {
                block.run(255, (n - 15) / 255).add((n - 15) % 255);
            }
            for (int i = 0; i < n; i++) {
                block.add(m.content[i]);
            }
            block.number(n, 2).add(25 - 19).add(0x50);
            for (int i = n + 25; i < n + 30; i++) {
                block.add(m.content[i]);
            }
            x.pack();
            framesAre(x, "pack() of literals " + n, new Bytes().head(96, 64).block(block).zeros());
        }
        for (int match : new int[] {7, 18, 19, 20, 273, 274, 275, 528, 529, 530, 65530}) {
            SequenceFrames x = new SequenceFrames();
            x.fill(5, match + 6);
            int more = match - 4;
            Bytes block = new Bytes().add(0x10 | Math.min(more, 15), 5, 1, 0);
            if (more >= 15) {
                block.run(255, (more - 15) / 255).add((more - 15) % 255);
            }
            block.add(0x50).run(5, 5);
            x.pack();
            framesAre(x, "pack() of a match of " + match, new Bytes().head(96, 64).block(block).zeros());
        }
    }

    private static void packParts() {
        SequenceFrames x = new SequenceFrames();
        x.fill(97, 29);
        x.option(5, 13);
        Bytes want = new Bytes().head(96, 64).block(thirteen()).block(thirteen()).raw(new Bytes().run(97, 3)).zeros();
        DUE.is("pack() in parts", x.pack(), want.size());
        framesAre(x, "pack() in parts", want);
        DUE.is("sequences", x.count(3), 5);
        DUE.is("blocks", x.count(4), 3);
        DUE.is("raw", x.count(5), 1);
        DUE.is("matched", x.count(6), 14);
        DUE.is("block of the third", x.sequence(2, 0), 1);
        DUE.is("start of the third", x.sequence(2, 1), 13);
        DUE.is("block of the last", x.sequence(4, 0), 2);
        x.option(5, 2);
        DUE.is("block of the last after a new PART", x.sequence(4, 0), 2);
        x.keep(26);
        x.cut(0);
        x.option(5, 13);
        x.pack();
        DUE.is("no block without bytes", x.count(4), 2);
        framesAre(x, "pack() in even parts", new Bytes().head(96, 64).block(thirteen()).block(thirteen()).zeros());
    }

    /** A LINKED block finds what stands in the one before; a block that is not LINKED does not. */
    private static void packLinked() {
        SequenceFrames x = new SequenceFrames();
        x.feed(0x0102030405060708L, 8);
        x.feed(0x090A0B0C0D0E0F10L, 8);
        x.again(16, 16);
        x.option(5, 16);
        x.option(0, 1);
        Bytes plain = new Bytes().add(1, 2, 3, 4, 5, 6, 7, 8, 9, 10, 11, 12, 13, 14, 15, 16);
        Bytes want = new Bytes().head(64, 64).raw(plain)
            .block(new Bytes().add(7, 16, 0, 0x50, 12, 13, 14, 15, 16)).zeros();
        DUE.is("pack() linked", x.pack(), want.size());
        framesAre(x, "pack() linked", want);
        DUE.is("linked, literals", x.sequence(1, 2), 0);
        DUE.is("linked, start where it would be", x.sequence(1, 1), 16);
        DUE.is("linked, offset", x.sequence(1, 3), 16);
        DUE.is("linked, match", x.sequence(1, 4), 11);
        DUE.is("linked, read()", x.read(), 32);
        DUE.is("linked, differs()", x.differs(), -1);
        x.option(0, 0);
        x.cut(0);
        x.pack();
        framesAre(x, "pack() not linked", new Bytes().head(96, 64).raw(plain).raw(plain).zeros());
        x.option(0, 1);
        x.pack();
        DUE.is("a second frame begins without places", x.sequence(0, 4), 0);
        DUE.is("two frames", x.read(), 64);
    }

    /** A match of 4 wins just what its token costs: its block is RAW, and its sequences are told. */
    private static void packRawWithMatch() {
        SequenceFrames x = new SequenceFrames();
        x.feed(0x0102030405060708L, 8);
        x.feed(0x01020304L, 4);
        x.feed(0x2122232425262728L, 8);
        DUE.is("pack() raw", x.pack(), 7 + 4 + 20 + 4);
        DUE.is("raw with a match, sequences", x.count(3), 2);
        DUE.is("raw with a match, raw", x.count(5), 1);
        DUE.is("raw with a match, matched", x.count(6), 4);
        int[] want = {0, 0, 8, 8, 4, 0, 12, 8, 0, 0};
        for (int i = 0; i < 10; i++) {
            DUE.is("raw with a match, sequence " + i, x.sequence(i / 5, i % 5), want[i]);
        }
    }

    /** LINKED: a match 65535 back is one, 65536 back is none. */
    private static void packOffsetMost() {
        for (int distance : new int[] {65535, 65536}) {
            SequenceFrames x = new SequenceFrames();
            x.feed(0x5152535455565758L, 8);
            x.fill(0, distance - 8);
            x.feed(0x5152535455565758L, 8);
            x.fill(1, 20);
            x.option(0, 1);
            x.option(5, 60000);
            x.pack();
            boolean seen = false;
            for (int i = 0; i < x.count(3); i++) {
                seen |= x.sequence(i, 3) == distance;
            }
            DUE.holds("a match " + distance + " back", seen == (distance == 65535));
            DUE.is("read()", x.read(), distance + 28);
            DUE.is("differs()", x.differs(), -1);
        }
    }

    private static void packFull() {
        SequenceFrames x = new SequenceFrames();
        x.fill(97, 13);
        x.pack();
        x.keep(0);
        x.mix(3, 70000);
        x.mix(4, 70000);
        x.pack();
        int size = x.count(1);
        DUE.is("two frames", size, 25 + 7 + 3 * 4 + 140000 + 4);
        long before = x.hash(1, 0, size, 0);
        x.keep(0);
        x.fill(5, 70000);
        x.mix(9, 65536);
        DUE.is("pack() into no room", x.pack(), -2);
        DUE.is("FRAMES stay", x.count(1), size);
        DUE.is("FRAMES stay", x.hash(1, 0, size, 0), before);
        Model m = new Model();
        m.fill(5, 70000);
        m.mix(9, 65536);
        m.pack();
        for (int what = 3; what <= 6; what++) {
            DUE.is("told all the same, count(" + what + ")", x.count(what), m.count(what));
        }
        for (int i = 0; i < 10; i++) {
            DUE.is("told all the same, sequence(" + i / 5 + ", " + i % 5 + ")", x.sequence(i / 5, i % 5), m.sequence(i / 5, i % 5));
        }
    }

    /** An object with given options whose CONTENT (of n bytes) is packed into RAW blocks and others. */
    private static SequenceFrames prepared(int set, int n) {
        SequenceFrames x = new SequenceFrames();
        for (int what = 0; what < 4; what++) {
            x.option(what, set >> what & 1);
        }
        x.option(5, 13);
        x.fill(97, 26);
        x.mix(1, 26);
        x.fill(98, 16);
        x.keep(n);
        return x;
    }

    private static void leaveRoom(SequenceFrames x, int room) {
        while (x.count(1) < 150000 - room) {
            int left = 150000 - room - x.count(1);
            if (left >= 8) {
                x.skip(0, Math.min(1000, left - 8), 0);
            } else {
                x.give(0, left);
            }
        }
    }

    private static void packIntoJustTheRoom() {
        for (int set = 0; set < 16; set++) {
            for (int n : new int[] {0, 26, 68}) {
                SequenceFrames x = prepared(set, n);
                int size = x.pack();
                DUE.is("read()", x.read(), n);
                x.cut(0);
                leaveRoom(x, size - 1);
                DUE.is("pack() of " + n + " with " + set + " into one too little", x.pack(), -2);
                DUE.is("FRAMES stay", x.count(1), 150000 - size + 1);
                x.cut(150000 - size);
                DUE.is("pack() of " + n + " with " + set + " into just the room", x.pack(), 150000);
            }
        }
    }

    private static void skip() {
        SequenceFrames x = new SequenceFrames();
        DUE.is("skip", x.skip(15, 2, 0x1FF), 10);
        DUE.is("skip of none", x.skip(0, 0, 1), 18);
        framesAre(x, "skip", new Bytes().add(95, 42, 77, 24, 2, 0, 0, 0, 255, 255, 80, 42, 77, 24, 0, 0, 0, 0));
        DUE.is("skip 1000", x.skip(3, 1000, 4), 1026);
        Bytes want = new Bytes().add(83, 42, 77, 24, 0xE8, 3, 0, 0).run(4, 1000);
        DUE.is("skip 1000, its bytes", x.hash(1, 18, 1008, 0), Model.hashOf(want.toArray(), 0));
        int[][] wrong = {{-1, 1}, {16, 1}, {0, -1}, {0, 1001}, {Integer.MIN_VALUE, 1}, {Integer.MAX_VALUE, 1},
            {1, Integer.MIN_VALUE}, {1, Integer.MAX_VALUE}};
        for (int[] w : wrong) {
            DUE.is("skip(" + w[0] + ", " + w[1] + ")", x.skip(w[0], w[1], 0), -1);
        }
        DUE.is("read()", x.read(), 0);
        DUE.is("frames read", x.count(7), 3);
        DUE.is("blocks read", x.count(8), 0);
        x.cut(0);
        for (int i = 0; i < 148; i++) {
            x.skip(0, 1000, 0);
        }
        DUE.is("nearly full", x.count(1), 148 * 1008);
        DUE.is("skip into too little room", x.skip(0, 809, 0), -2);
        DUE.is("wrong before FULL", x.skip(16, 809, 0), -1);
        DUE.is("count(1) as before", x.count(1), 148 * 1008);
        DUE.is("skip into just the room", x.skip(0, 808, 0), 150000);
        DUE.is("skip into none", x.skip(0, 0, 0), -2);
    }

    private static void give() {
        SequenceFrames x = new SequenceFrames();
        DUE.is("give 4", x.give(0x1122334455667788L, 4), 4);
        DUE.is("give 8", x.give(0x8122334455667788L, 8), 12);
        framesAre(x, "give", new Bytes().add(0x55, 0x66, 0x77, 0x88, 0x81, 0x22, 0x33, 0x44, 0x55, 0x66, 0x77, 0x88));
        for (int n : new int[] {0, 9, -1, Integer.MIN_VALUE, Integer.MAX_VALUE}) {
            DUE.is("give " + n, x.give(5, n), -1);
        }
        DUE.is("count(0)", x.count(0), 0);
        x.cut(0);
        for (int i = 0; i < 148; i++) {
            x.skip(0, 1000, 0);
        }
        x.skip(0, 804, 0);
        DUE.is("give into too little room", x.give(1, 5), -2);
        DUE.is("wrong before FULL", x.give(1, 9), -1);
        DUE.is("give into just the room", x.give(1, 4), 150000);
        DUE.is("give into none", x.give(1, 1), -2);
    }

    private static void alter() {
        SequenceFrames x = new SequenceFrames();
        DUE.is("alter of nothing", x.alter(0, 1), -1);
        x.give(0x0A0BFF, 3);
        DUE.is("alter(2)", x.alter(2, 0x3C8), 0xFF);
        DUE.is("alter(0)", x.alter(0, -2), 0x0A);
        framesAre(x, "alter", new Bytes().add(0xFE, 0x0B, 0xC8));
        for (int i : new int[] {3, -1, Integer.MIN_VALUE, Integer.MAX_VALUE}) {
            DUE.is("alter(" + i + ")", x.alter(i, 1), -1);
        }
    }

    private static void cut() {
        SequenceFrames x = new SequenceFrames();
        DUE.is("cut(0) of nothing", x.cut(0), 0);
        x.give(0x0A0B0C0D, 4);
        for (int n : new int[] {5, -1, Integer.MIN_VALUE, Integer.MAX_VALUE}) {
            DUE.is("cut(" + n + ")", x.cut(n), -1);
        }
        DUE.is("cut(4)", x.cut(4), 4);
        DUE.is("cut(2)", x.cut(2), 4);
        framesAre(x, "cut(2)", new Bytes().add(10, 11));
        DUE.is("cut(0)", x.cut(0), 2);
        DUE.is("count(1)", x.count(1), 0);
    }
}
