import java.util.ArrayList;
import java.util.Arrays;
import java.util.HashMap;
import java.util.List;
import java.util.Map;

/** The document said a second time, as plainly and slowly as can be, to compare the program with. */
final class Model {
    static final int NONE = -1;
    static final int FULL = -2;
    private static final long P1 = 2654435761L;
    private static final long P2 = 2246822519L;
    private static final long P3 = 3266489917L;
    private static final long P4 = 668265263L;
    private static final long P5 = 374761393L;

    record Found(int block, int start, int literals, int offset, int match) { }

    private static final class FaultMet extends Exception {
        private static final long serialVersionUID = 1L;
        final int number;
        final int where;

        FaultMet(int number, int where) {
            this.number = number;
            this.where = where;
        }
    }

    int[] content = {};
    int[] frames = {};
    int[] output = {};
    private final int[] options = {0, 0, 0, 0, 4, 65536};
    private List<Found> found = new ArrayList<>();
    private int packedBlocks;
    private int packedRaw;
    private int packedMatched;
    private int readFrames;
    private int readBlocks;
    private int faultPlace = NONE;

    // ---- CONTENT and FRAMES as rows

    private static int[] joined(int[] a, int[] b) {
        int[] both = Arrays.copyOf(a, a.length + b.length);
        System.arraycopy(b, 0, both, a.length, b.length);
        return both;
    }

    private static int[] highestFirst(long bytes, int n) {
        int[] row = new int[n];
        for (int i = n - 1; i >= 0; i--) {
            row[i] = (int) (bytes & 255);
            bytes >>= 8;
        }
        return row;
    }

    private int put(int[] more) {
        if (content.length + more.length > 140000) {
            return FULL;
        }
        content = joined(content, more);
        return content.length;
    }

    private int putFrames(int[] more) {
        if (frames.length + more.length > 150000) {
            return FULL;
        }
        frames = joined(frames, more);
        return frames.length;
    }

    int feed(long bytes, int n) {
        return n < 1 || n > 8 ? NONE : put(highestFirst(bytes, n));
    }

    int fill(int b, int n) {
        if (n < 1 || n > 70000) {
            return NONE;
        }
        int[] row = new int[n];
        Arrays.fill(row, b & 255);
        return put(row);
    }

    int again(int distance, int n) {
        if (n < 1 || n > 70000 || distance < 1 || distance > content.length) {
            return NONE;
        }
        int[] row = new int[n];
        for (int i = 0; i < n; i++) {
            row[i] = i < distance ? content[content.length - distance + i] : row[i - distance];
        }
        return put(row);
    }

    int mix(int seed, int n) {
        if (n < 1 || n > 70000) {
            return NONE;
        }
        int[] row = new int[n];
        long x = seed & 0xFFFFFFFFL;
        for (int i = 0; i < n; i++) {
            x = (x * 1103515245L + 12345L) & 0xFFFFFFFFL;
            row[i] = (int) (x / 65536 % 256);
        }
        return put(row);
    }

    private static int changed(int[] row, int i, int b) {
        if (i < 0 || i >= row.length) {
            return NONE;
        }
        int before = row[i];
        row[i] = b & 255;
        return before;
    }

    int change(int i, int b) {
        return changed(content, i, b);
    }

    int alter(int i, int b) {
        return changed(frames, i, b);
    }

    int keep(int n) {
        int before = content.length;
        if (n < 0 || n > before) {
            return NONE;
        }
        content = Arrays.copyOf(content, n);
        return before;
    }

    int cut(int n) {
        int before = frames.length;
        if (n < 0 || n > before) {
            return NONE;
        }
        frames = Arrays.copyOf(frames, n);
        return before;
    }

    int give(long bytes, int n) {
        return n < 1 || n > 8 ? NONE : putFrames(highestFirst(bytes, n));
    }

    int skip(int kind, int n, int b) {
        if (kind < 0 || kind > 15 || n < 0 || n > 1000) {
            return NONE;
        }
        return putFrames(new Bytes().add(80 + kind, 42, 77, 24).number(n, 4).run(b, n).toArray());
    }

    int option(int what, int v) {
        boolean fine = what >= 0 && what <= 3 && v >= 0 && v <= 1
            || what == 4 && v >= 4 && v <= 7 || what == 5 && v >= 1 && v <= 65536;
        if (!fine) {
            return NONE;
        }
        int before = options[what];
        options[what] = v;
        return before;
    }

    // ---- THE HASH

    private static long turned(long x, int r) {
        x &= 0xFFFFFFFFL;
        return ((x << r) | (x >> (32 - r))) & 0xFFFFFFFFL;
    }

    private static long wordAt(int[] row, int i) {
        return row[i] + row[i + 1] * 256L + row[i + 2] * 65536L + row[i + 3] * 16777216L;
    }

    private static long times(long a, long b) {
        return ((a & 0xFFFFFFFFL) * (b & 0xFFFFFFFFL)) & 0xFFFFFFFFL;
    }

    static long hashOf(int[] row, int seed) {
        long[] lanes = {seed + P1 + P2, seed + P2, seed, seed - P1};
        int i = 0;
        long h = seed + P5;
        if (row.length >= 16) {
            for (; row.length - i >= 16; i += 16) {
                for (int k = 0; k < 4; k++) {
                    lanes[k] = times(turned(lanes[k] + times(P2, wordAt(row, i + 4 * k)), 13), P1);
                }
            }
            h = turned(lanes[0], 1) + turned(lanes[1], 7) + turned(lanes[2], 12) + turned(lanes[3], 18);
        }
        h += row.length;
        for (; row.length - i >= 4; i += 4) {
            h = times(turned(h + times(P3, wordAt(row, i)), 17), P4);
        }
        for (; i < row.length; i++) {
            h = times(turned(h + times(P5, row[i]), 11), P1);
        }
        h &= 0xFFFFFFFFL;
        h = times(h ^ (h >> 15), P2);
        h = times(h ^ (h >> 13), P3);
        return h ^ (h >> 16);
    }

    // ---- TO PACK

    int pack() {
        boolean linked = options[0] == 1;
        found = new ArrayList<>();
        packedBlocks = 0;
        packedRaw = 0;
        packedMatched = 0;
        Bytes frame = new Bytes().head(64 + (linked ? 0 : 32) + 16 * options[1] + 8 * options[2] + 4 * options[3],
            16 * options[4], content.length);
        Map<Integer, Integer> table = new HashMap<>();
        for (int s = 0; s < content.length; s += options[5]) {
            int e = Math.min(content.length, s + options[5]);
            if (!linked) {
                table = new HashMap<>();
            }
            Bytes block = packBlock(s, e, table);
            packedBlocks++;
            Bytes plain = new Bytes().add(Arrays.copyOfRange(content, s, e));
            boolean raw = block.size() >= e - s;
            if (raw) {
                packedRaw++;
                frame.raw(plain);
            } else {
                frame.block(block);
            }
            if (options[1] == 1) {
                frame.check(raw ? plain : block);
            }
        }
        frame.zeros();
        if (options[3] == 1) {
            frame.number(hashOf(content, 0), 4);
        }
        return putFrames(frame.toArray());
    }

    private Bytes packBlock(int s, int e, Map<Integer, Integer> table) {
        Bytes block = new Bytes();
        int p = s;
        int unpacked = s;
        while (p <= e - 12) {
            int slot = (int) (times(wordAt(content, p), P1) >> 20);
            Integer q = table.put(slot, p);
            if (q == null || p - q > 65535 || wordAt(content, p) != wordAt(content, q)) {
                p++;
                continue;
            }
            int n = 0;
            while (p + n < e - 5 && content[p + n] == content[q + n]) {
                n++;
            }
            write(block, new Found(packedBlocks, unpacked, p - unpacked, p - q, n));
            p += n;
            unpacked = p;
        }
        write(block, new Found(packedBlocks, unpacked, e - unpacked, 0, 0));
        return block;
    }

    private void write(Bytes block, Found f) {
        found.add(f);
        packedMatched += f.match;
        int more = f.match == 0 ? 0 : f.match - 4;
        block.add((f.literals >= 15 ? 240 : f.literals * 16) + (more >= 15 ? 15 : more));
        writeMore(block, f.literals);
        block.add(Arrays.copyOfRange(content, f.start, f.start + f.literals));
        if (f.match > 0) {
            block.number(f.offset, 2);
            writeMore(block, more);
        }
    }

    private static void writeMore(Bytes block, int n) {
        if (n >= 15) {
            block.run(255, (n - 15) / 255).add((n - 15) % 255);
        }
    }

    // ---- TO READ FRAMES

    private int at;
    private Bytes out;

    int read() {
        at = 0;
        out = new Bytes();
        int nFrames = 0;
        int nBlocks = 0;
        try {
            while (at < frames.length) {
                nBlocks += readFrame();
                nFrames++;
            }
        } catch (FaultMet fault) {
            faultPlace = fault.where;
            return -10 - fault.number;
        }
        faultPlace = NONE;
        readFrames = nFrames;
        readBlocks = nBlocks;
        output = out.toArray();
        return output.length;
    }

    private long take(int n) throws FaultMet {
        if (frames.length - at < n) {
            throw new FaultMet(1, frames.length);
        }
        long v = 0;
        for (int i = n - 1; i >= 0; i--) {
            v = v << 8 | frames[at + i];
        }
        at += n;
        return v;
    }

    private int readFrame() throws FaultMet {
        int first = at;
        long begin = take(4);
        if (begin >= 0x184D2A50L && begin <= 0x184D2A5FL) {
            long n = take(4);
            if (n > frames.length - at) {
                throw new FaultMet(1, frames.length);
            }
            at += (int) n;
            return 0;
        }
        if (begin != 0x184D2204L) {
            throw new FaultMet(2, first);
        }
        int flg = (int) take(1);
        if (flg < 64 || flg > 127 || flg % 4 != 0) {
            throw new FaultMet(3, at - 1);
        }
        int bd = (int) take(1);
        if (bd != 64 && bd != 80 && bd != 96 && bd != 112) {
            throw new FaultMet(3, at - 1);
        }
        long told = (flg & 8) != 0 ? take(8) : 0;
        int[] head = Arrays.copyOfRange(frames, first + 4, at);
        if (take(1) != (hashOf(head, 0) >> 8 & 255)) {
            throw new FaultMet(4, at - 1);
        }
        return readBody(flg, 1 << (8 + bd / 8), told);
    }

    private int readBody(int flg, int most, long told) throws FaultMet {
        int start = out.size();
        int nBlocks = 0;
        while (true) {
            int sizePlace = at;
            long n = take(4);
            if (n == 0) {
                if ((flg & 8) != 0 && told != out.size() - start) {
                    throw new FaultMet(10, sizePlace);
                }
                break;
            }
            boolean raw = n >= 1L << 31;
            n %= 1L << 31;
            if (n > most) {
                throw new FaultMet(5, sizePlace);
            }
            if (n > frames.length - at) {
                throw new FaultMet(1, frames.length);
            }
            int[] bytes = Arrays.copyOfRange(frames, at, at + (int) n);
            int from = at;
            at += (int) n;
            if ((flg & 16) != 0 && take(4) != hashOf(bytes, 0)) {
                throw new FaultMet(6, at - 4);
            }
            nBlocks++;
            if (!raw) {
                readSequences(bytes, from, most, (flg & 32) != 0 ? out.size() : start);
            } else if (out.size() + bytes.length > 140000) {
                throw new FaultMet(8, sizePlace);
            } else {
                out.add(bytes);
            }
        }
        int[] all = Arrays.copyOfRange(out.toArray(), start, out.size());
        if ((flg & 4) != 0 && take(4) != hashOf(all, 0)) {
            throw new FaultMet(11, at - 4);
        }
        return nBlocks;
    }

    private void readSequences(int[] b, int from, int most, int history) throws FaultMet {
        FaultMet nine = new FaultMet(9, from - 4);
        int blockStart = out.size();
        int room = Math.min(140000, blockStart + most);
        int lastMatch = -1;
        int i = 0;
        while (i < b.length) {
            int tokenPlace = i;
            int token = b[i++];
            int literals = token / 16;
            if (literals == 15) {
                do {
                    if (i >= b.length) {
                        throw nine;
                    }
                    literals += b[i++];
                } while (b[i - 1] == 255);
            }
            if (out.size() + literals > room) {
                throw new FaultMet(8, from + tokenPlace);
            }
            if (i + literals > b.length) {
                throw nine;
            }
            out.add(Arrays.copyOfRange(b, i, i + literals));
            i += literals;
            if (i == b.length) {
                if (token % 16 != 0 || lastMatch >= 0 && (literals < 5 || lastMatch > out.size() - 12)) {
                    throw nine;
                }
                return;
            }
            if (i + 2 > b.length) {
                throw nine;
            }
            int offset = b[i] + 256 * b[i + 1];
            if (offset == 0 || out.size() - offset < history) {
                throw new FaultMet(7, from + i);
            }
            i += 2;
            int match = token % 16;
            if (match == 15) {
                do {
                    if (i >= b.length) {
                        throw nine;
                    }
                    match += b[i++];
                } while (b[i - 1] == 255);
            }
            match += 4;
            if (out.size() + match > room) {
                throw new FaultMet(8, from + tokenPlace);
            }
            lastMatch = out.size();
            for (int k = 0; k < match; k++) {
                out.add(out.at(out.size() - offset));
            }
        }
        throw nine;
    }

    int place() {
        return faultPlace;
    }

    // ---- telling

    int count(int what) {
        int[] all = {content.length, frames.length, output.length, found.size(), packedBlocks, packedRaw,
            packedMatched, readFrames, readBlocks};
        return what < 0 || what >= all.length ? NONE : all[what];
    }

    private int[] rowOf(int row) {
        return row == 0 ? content : row == 1 ? frames : row == 2 ? output : null;
    }

    int octet(int row, int i) {
        int[] asked = rowOf(row);
        return asked == null || i < 0 || i >= asked.length ? NONE : asked[i];
    }

    int sequence(int i, int what) {
        if (i < 0 || i >= found.size() || what < 0 || what > 4) {
            return NONE;
        }
        Found f = found.get(i);
        return new int[] {f.block, f.start, f.literals, f.offset, f.match}[what];
    }

    long hash(int row, int from, int n, int seed) {
        int[] asked = rowOf(row);
        if (asked == null || from < 0 || n < 0 || (long) from + n > asked.length) {
            return NONE;
        }
        return hashOf(Arrays.copyOfRange(asked, from, from + n), seed);
    }

    int differs() {
        return Arrays.mismatch(content, output);
    }
}
