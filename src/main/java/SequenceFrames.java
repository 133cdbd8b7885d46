import java.util.Arrays;

/** Rows of bytes packed into frames of blocks, as LZ4 has them, and read again. README.md tells its use. */
public final class SequenceFrames {

    public static final int NONE = -1;
    public static final int FULL = -2;

    private static final int CONTENT_MOST = 140000;
    private static final int FRAMES_MOST = 150000;
    private static final int PUT_MOST = 70000;
    private static final int SKIPPED_MOST = 1000;

    /** The four bytes that begin a frame, and a skipped one of kind 0, as words. */
    private static final int FRAME_BEGIN = 0x184D2204;
    private static final int SKIPPED_BEGIN = 0x184D2A50;
    private static final int KIND_BITS = 15;

    private static final int FLAG_VERSION = 64;
    private static final int FLAG_UNLINKED = 32;
    private static final int FLAG_CHECKS = 16;
    private static final int FLAG_SIZE = 8;
    private static final int FLAG_CHECK_OF_ALL = 4;

    private static final int RAW_BIT = 0x80000000;

    /** Where a token's four bits are all 1, more bytes tell the number. */
    private static final int NIBBLE_MOST = 15;
    private static final int MATCH_LEAST = 4;
    private static final int LAST_LITERALS_LEAST = 5;
    private static final int LAST_MATCH_DISTANCE = 12;

    private final Row content;
    private final Row frames;
    private Row output;
    /** What read() writes into: it changes places with output when there was no fault. */
    private Row spare;
    private final Options options;
    private final Sequences found;
    private final Packer packer;
    private int faultPlace;
    private int framesRead;
    private int blocksRead;

    public SequenceFrames() {
        content = new Row(CONTENT_MOST);
        frames = new Row(FRAMES_MOST);
        output = new Row(CONTENT_MOST);
        spare = new Row(CONTENT_MOST);
        options = new Options();
        found = new Sequences();
        packer = new Packer(content, frames, options, found);
        faultPlace = NONE;
    }

    // ---- CONTENT

    public int feed(long bytes, int n) {
        return content.addHighestFirst(bytes, n);
    }

    public int fill(int b, int n) {
        int refused = refusedPut(n);
        if (refused != 0) {
            return refused;
        }
        content.addRun(b, n);
        return content.size;
    }

    public int again(int distance, int n) {
        if (distance < 1 || distance > content.size) {
            return NONE;
        }
        int refused = refusedPut(n);
        if (refused != 0) {
            return refused;
        }
        content.addAgain(distance, n);
        return content.size;
    }

    public int mix(int seed, int n) {
        int refused = refusedPut(n);
        if (refused != 0) {
            return refused;
        }
        int x = seed;
        for (int i = 0; i < n; i++) {
            x = x * 1103515245 + 12345;
            content.add(x >>> 16);
        }
        return content.size;
    }

    public int change(int i, int b) {
        return content.set(i, b);
    }

    public int keep(int n) {
        return content.shorten(n);
    }

    // ---- FRAMES

    public int option(int what, int v) {
        return options.set(what, v);
    }

    public int pack() {
        return packer.packAll();
    }

    public int skip(int kind, int n, int b) {
        if (kind < 0 || kind > KIND_BITS || n < 0 || n > SKIPPED_MOST) {
            return NONE;
        }
        if (8 + n > frames.room()) {
            return FULL;
        }
        frames.addNumber(SKIPPED_BEGIN + kind, 4);
        frames.addNumber(n, 4);
        frames.addRun(b, n);
        return frames.size;
    }

    public int give(long bytes, int n) {
        return frames.addHighestFirst(bytes, n);
    }

    public int alter(int i, int b) {
        return frames.set(i, b);
    }

    public int cut(int n) {
        return frames.shorten(n);
    }

    public int read() {
        spare.shorten(0);
        Fault fault = new Fault();
        FrameReader reader = new FrameReader(frames, spare, fault);
        boolean fine = reader.readAll();
        faultPlace = fault.where;
        if (!fine) {
            return -10 - fault.number;
        }
        Row before = output;
        output = spare;
        spare = before;
        framesRead = reader.framesRead;
        blocksRead = reader.blocksRead;
        return output.size;
    }

    public int place() {
        return faultPlace;
    }

    // ---- telling

    public int count(int what) {
        switch (what) {
            case 0: return content.size;
            case 1: return frames.size;
            case 2: return output.size;
            case 3: return found.number;
            case 4: return packer.blocks;
            case 5: return packer.rawBlocks;
            case 6: return found.matched;
            case 7: return framesRead;
            case 8: return blocksRead;
            default: return NONE;
        }
    }

    public int octet(int row, int i) {
        Row asked = rowOf(row);
        return asked == null ? NONE : asked.get(i);
    }

    public int sequence(int i, int what) {
        return found.tell(i, what);
    }

    public long hash(int row, int from, int n, int seed) {
        Row asked = rowOf(row);
        if (asked == null || !asked.hasPiece(from, n)) {
            return NONE;
        }
        return asked.hashOf(from, n, seed) & 0xFFFFFFFFL;
    }

    public int differs() {
        int shorter = Math.min(content.size, output.size);
        for (int i = 0; i < shorter; i++) {
            if (content.bytes[i] != output.bytes[i]) {
                return i;
            }
        }
        return content.size == output.size ? NONE : shorter;
    }

    /** NONE or FULL when n bytes can't be put behind CONTENT, 0 when they can. */
    private int refusedPut(int n) {
        if (n < 1 || n > PUT_MOST) {
            return NONE;
        }
        return n > content.room() ? FULL : 0;
    }

    private Row rowOf(int row) {
        switch (row) {
            case 0: return content;
            case 1: return frames;
            case 2: return output;
            default: return null;
        }
    }

    /** A row of bytes that never holds more than it was made for. */
    private static final class Row {
        private static final int P1 = (int) 2654435761L;
        private static final int P2 = (int) 2246822519L;
        private static final int P3 = (int) 3266489917L;
        private static final int P4 = 668265263;
        private static final int P5 = 374761393;

        final byte[] bytes;
        int size;

        Row(int most) {
            bytes = new byte[Math.max(0, most)];
        }

        int room() {
            return bytes.length - size;
        }

        /** Whether n bytes from one on are all there; written so that no sum runs over. */
        boolean hasPiece(int from, int n) {
            return from >= 0 && n >= 0 && from <= size && n <= size - from;
        }

        int get(int i) {
            return i >= 0 && i < size ? bytes[i] & 255 : NONE;
        }

        int set(int i, int b) {
            int before = get(i);
            if (before != NONE) {
                bytes[i] = (byte) b;
            }
            return before;
        }

        int shorten(int n) {
            if (n < 0 || n > size) {
                return NONE;
            }
            int before = size;
            size = n;
            return before;
        }

        void add(int b) {
            if (size < bytes.length) {
                bytes[size] = (byte) b;
                size++;
            }
        }

        void addRun(int b, int n) {
            for (int i = 0; i < n; i++) {
                add(b);
            }
        }

        int addHighestFirst(long number, int n) {
            if (n < 1 || n > 8) {
                return NONE;
            }
            if (n > room()) {
                return FULL;
            }
            for (int i = n - 1; i >= 0; i--) {
                add((int) (number >>> (8 * i)));
            }
            return size;
        }

        /** Puts a number of n bytes, the lowest first. */
        void addNumber(long number, int n) {
            for (int i = 0; i < n; i++) {
                add((int) (number >>> (8 * i)));
            }
        }

        void addPiece(Row other, int from, int n) {
            if (other.hasPiece(from, n) && n <= room()) {
                System.arraycopy(other.bytes, from, bytes, size, n);
                size += n;
            }
        }

        /** Puts n bytes, each the one distance before: one by one, as they may be of those just put. */
        void addAgain(int distance, int n) {
            if (distance < 1 || distance > size || n > room()) {
                return;
            }
            for (int i = 0; i < n; i++) {
                bytes[size] = bytes[size - distance];
                size++;
            }
        }

        /** The number of n bytes (8 at most) at a place, the lowest first. */
        long numberAt(int from, int n) {
            long number = 0;
            if (hasPiece(from, n)) {
                for (int i = 0; i < n; i++) {
                    number |= (bytes[from + i] & 255L) << (8 * i);
                }
            }
            return number;
        }

        int word(int i) {
            if (i < 0 || i > size - 4) {
                return 0;
            }
            return (bytes[i] & 255) | (bytes[i + 1] & 255) << 8
                | (bytes[i + 2] & 255) << 16 | (bytes[i + 3] & 255) << 24;
        }

        /** THE HASH; 0 when the bytes are not there. */
        int hashOf(int from, int n, int seed) {
            if (!hasPiece(from, n)) {
                return 0;
            }
            int end = from + n;
            int words = from + (n >= 16 ? n & ~15 : 0);
            int h = (n >= 16 ? sixteens(from, words, seed) : seed + P5) + n;
            int rest = end - (n & 3);
            for (int i = words; i < rest; i += 4) {
                int x = h + P3 * word(i);
                h = (x << 17 | x >>> 15) * P4;
            }
            for (int i = rest; i < end; i++) {
                int x = h + P5 * (bytes[i] & 255);
                h = (x << 11 | x >>> 21) * P1;
            }
            h = (h ^ h >>> 15) * P2;
            h = (h ^ h >>> 13) * P3;
            return h ^ h >>> 16;
        }

        private int sixteens(int from, int end, int seed) {
            int a = seed + P1 + P2;
            int b = seed + P2;
            int c = seed;
            int d = seed - P1;
            for (int i = from; i < end; i += 16) {
                a = withWord(a, word(i));
                b = withWord(b, word(i + 4));
                c = withWord(c, word(i + 8));
                d = withWord(d, word(i + 12));
            }
            return (a << 1 | a >>> 31) + (b << 7 | b >>> 25) + (c << 12 | c >>> 20) + (d << 18 | d >>> 14);
        }

        private static int withWord(int sum, int word) {
            int x = sum + P2 * word;
            return (x << 13 | x >>> 19) * P1;
        }
    }

    /** What option() sets: each value has its least and its most. */
    private static final class Options {
        private static final int LINKED = 0;
        private static final int CHECKS = 1;
        private static final int SIZE = 2;
        private static final int CHECK_OF_ALL = 3;
        private static final int CODE = 4;
        private static final int PART = 5;
        private static final int[] LEAST = {0, 0, 0, 0, 4, 1};
        private static final int[] MOST = {1, 1, 1, 1, 7, 65536};

        private final int[] values = {0, 0, 0, 0, 4, 65536};

        int set(int what, int v) {
            if (what < 0 || what >= values.length || v < LEAST[what] || v > MOST[what]) {
                return NONE;
            }
            int before = values[what];
            values[what] = v;
            return before;
        }

        boolean linked() {
            return values[LINKED] == 1;
        }

        int flags() {
            return FLAG_VERSION
                + (values[LINKED] == 1 ? 0 : FLAG_UNLINKED)
                + (values[CHECKS] == 1 ? FLAG_CHECKS : 0)
                + (values[SIZE] == 1 ? FLAG_SIZE : 0)
                + (values[CHECK_OF_ALL] == 1 ? FLAG_CHECK_OF_ALL : 0);
        }

        int code() {
            return values[CODE];
        }

        int part() {
            return values[PART];
        }
    }

    /**
     * The sequences of the latest pack(). Each begins where the one before ends, so its match is what
     * lies between its literals and the next one's start; and a block's number follows from the start,
     * as each sequence starts inside its block. What can be worked out is not kept: rows are dear.
     */
    private static final class Sequences {
        private final int[] starts = new int[CONTENT_MOST + 1];
        private final int[] literals = new int[CONTENT_MOST];
        private final int[] offsets = new int[CONTENT_MOST];
        private int part = 1;
        int number;
        int matched;

        void clear(int newPart) {
            part = newPart;
            number = 0;
            matched = 0;
            starts[0] = 0;
        }

        void add(int literalCount, int offset, int matchLength) {
            if (number < 0 || number >= CONTENT_MOST) {
                return;
            }
            literals[number] = literalCount;
            offsets[number] = offset;
            starts[number + 1] = starts[number] + literalCount + matchLength;
            number++;
            matched += matchLength;
        }

        boolean has(int i) {
            return i >= 0 && i < number && i < CONTENT_MOST;
        }

        int startOf(int i) {
            return has(i) ? starts[i] : NONE;
        }

        int literalsOf(int i) {
            return has(i) ? literals[i] : NONE;
        }

        int offsetOf(int i) {
            return has(i) ? offsets[i] : NONE;
        }

        int matchOf(int i) {
            return has(i) ? starts[i + 1] - starts[i] - literals[i] : NONE;
        }

        int blockOf(int i) {
            return has(i) && part > 0 ? starts[i] / part : NONE;
        }

        int tell(int i, int what) {
            switch (what) {
                case 0: return blockOf(i);
                case 1: return startOf(i);
                case 2: return literalsOf(i);
                case 3: return offsetOf(i);
                case 4: return matchOf(i);
                default: return NONE;
            }
        }

        /** How many bytes the sequences from first up to end (not of them) are written with. */
        int packedSize(int first, int end) {
            int sum = 0;
            for (int i = first; i < end; i++) {
                sum += 1 + moreBytes(literalsOf(i)) + literalsOf(i);
                if (offsetOf(i) > 0) {
                    sum += 2 + moreBytes(matchOf(i) - MATCH_LEAST);
                }
            }
            return sum;
        }

        /** How many bytes tell what of a number does not go into the token. */
        private static int moreBytes(int n) {
            return n < NIBBLE_MOST ? 0 : 1 + (n - NIBBLE_MOST) / 255;
        }
    }

    /** Finds the sequences of CONTENT and writes its frame. */
    private static final class Packer {
        private static final int SLOTS = 4096;
        private static final int OFFSET_MOST = 65535;

        private final Row content;
        private final Row frames;
        private final Options options;
        private final Sequences found;
        private final int[] table = new int[SLOTS];
        int blocks;
        int rawBlocks;

        Packer(Row content, Row frames, Options options, Sequences found) {
            this.content = content;
            this.frames = frames;
            this.options = options;
            this.found = found;
        }

        /** The frame's length is known before the first byte is written, so FULL leaves FRAMES alone. */
        int packAll() {
            int flags = options.flags();
            int length = headSize(flags) + findAll(flags) + endSize(flags);
            if (length > frames.room()) {
                return FULL;
            }
            writeHead(flags);
            writeBlocks(flags);
            writeEnd(flags);
            return frames.size;
        }

        private static int headSize(int flags) {
            return (flags & FLAG_SIZE) != 0 ? 15 : 7;
        }

        private static int endSize(int flags) {
            return (flags & FLAG_CHECK_OF_ALL) != 0 ? 8 : 4;
        }

        /** Finds the sequences of all blocks: how many bytes the blocks are written with. */
        private int findAll(int flags) {
            int part = Math.max(1, options.part());
            int aroundBlock = (flags & FLAG_CHECKS) != 0 ? 8 : 4;
            int length = 0;
            found.clear(part);
            blocks = 0;
            rawBlocks = 0;
            Arrays.fill(table, NONE);
            for (int s = 0; s < content.size; s += part) {
                int e = Math.min(s + part, content.size);
                int first = found.number;
                findBlock(s, e, options.linked() ? 0 : s);
                int packed = found.packedSize(first, found.number);
                blocks++;
                if (packed >= e - s) {
                    rawBlocks++;
                }
                length += aroundBlock + Math.min(packed, e - s);
            }
            return length;
        }

        /**
         * Places before history count as none: this stands for emptying the table at the beginning of
         * each block, which would be dear with many small blocks.
         */
        private void findBlock(int s, int e, int history) {
            int unpacked = s;
            int p = s;
            while (p <= e - LAST_MATCH_DISTANCE) {
                int word = content.word(p);
                int slot = word * Row.P1 >>> 20;
                int q = table[slot];
                table[slot] = p;
                int length = 0;
                if (q >= history && p - q <= OFFSET_MOST && content.word(q) == word) {
                    length = matchLength(q, p, e - LAST_LITERALS_LEAST);
                    found.add(p - unpacked, p - q, length);
                    unpacked = p + length;
                }
                p += Math.max(1, length);
            }
            found.add(e - unpacked, 0, 0);
        }

        private int matchLength(int q, int p, int end) {
            int i = p;
            while (i < end && content.get(i) == content.get(i - p + q)) {
                i++;
            }
            return i - p;
        }

        private void writeHead(int flags) {
            frames.addNumber(FRAME_BEGIN, 4);
            int head = frames.size;
            frames.add(flags);
            frames.add(16 * options.code());
            if ((flags & FLAG_SIZE) != 0) {
                frames.addNumber(content.size, 8);
            }
            frames.add(frames.hashOf(head, frames.size - head, 0) >>> 8);
        }

        private void writeBlocks(int flags) {
            int part = Math.max(1, options.part());
            int first = 0;
            for (int s = 0; s < content.size; s += part) {
                int e = Math.min(s + part, content.size);
                int next = first;
                while (next < found.number && found.startOf(next) < e) {
                    next++;
                }
                int blockBytes = frames.size + 4;
                writeBlock(s, e, first, next);
                if ((flags & FLAG_CHECKS) != 0) {
                    frames.addNumber(frames.hashOf(blockBytes, frames.size - blockBytes, 0), 4);
                }
                first = next;
            }
        }

        private void writeBlock(int s, int e, int first, int next) {
            int packed = found.packedSize(first, next);
            if (packed >= e - s) {
                frames.addNumber(e - s | RAW_BIT, 4);
                frames.addPiece(content, s, e - s);
                return;
            }
            frames.addNumber(packed, 4);
            for (int i = first; i < next; i++) {
                writeSequence(i);
            }
        }

        private void writeSequence(int i) {
            int literals = found.literalsOf(i);
            int offset = found.offsetOf(i);
            int match = offset > 0 ? found.matchOf(i) - MATCH_LEAST : 0;
            frames.add(Math.min(literals, NIBBLE_MOST) << 4 | Math.min(match, NIBBLE_MOST));
            writeMore(literals);
            frames.addPiece(content, found.startOf(i), literals);
            if (offset > 0) {
                frames.addNumber(offset, 2);
                writeMore(match);
            }
        }

        /** Writes what of a number does not go into the token. */
        private void writeMore(int n) {
            if (n < NIBBLE_MOST) {
                return;
            }
            int rest = n - NIBBLE_MOST;
            while (rest >= 255) {
                frames.add(255);
                rest -= 255;
            }
            frames.add(rest);
        }

        private void writeEnd(int flags) {
            frames.addNumber(0, 4);
            if ((flags & FLAG_CHECK_OF_ALL) != 0) {
                frames.addNumber(content.hashOf(0, content.size, 0), 4);
            }
        }
    }

    /** The fault of one read() with its place. */
    private static final class Fault {
        static final int ENDED = 1;
        static final int NO_FRAME = 2;
        static final int HEAD = 3;
        static final int HEAD_CHECK = 4;
        static final int BLOCK_SIZE = 5;
        static final int BLOCK_CHECK = 6;
        static final int OFFSET = 7;
        static final int TOO_MUCH = 8;
        static final int BLOCK_RULES = 9;
        static final int SIZE = 10;
        static final int CHECK_OF_ALL = 11;

        int number;
        int where = NONE;

        /** Keeps the fault; false always, so that a reader can answer with it. */
        boolean refuse(int newNumber, int newWhere) {
            number = newNumber;
            where = newWhere;
            return false;
        }
    }

    /** Reads frames one behind the other. Each of its methods tells whether there was no fault. */
    private static final class FrameReader {
        private final Row frames;
        private final Row output;
        private final Fault fault;
        private final BlockReader blockReader;
        private int at;
        private boolean inFrame;
        private int frameStart;
        private int flags;
        private int most;
        private long toldSize;
        int framesRead;
        int blocksRead;

        FrameReader(Row frames, Row output, Fault fault) {
            this.frames = frames;
            this.output = output;
            this.fault = fault;
            blockReader = new BlockReader(frames, output, fault);
        }

        /** Each step takes four bytes or more, or meets a fault: so there are not more steps than bytes. */
        boolean readAll() {
            boolean fine = true;
            for (int step = 0; step <= frames.size && fine && (inFrame || at < frames.size); step++) {
                fine = isThere(4);
                int word = frames.word(at);
                if (fine && !inFrame) {
                    fine = readBegin(word);
                } else if (fine) {
                    fine = word == 0 ? readEnd() : readBlock(word);
                }
            }
            return fine;
        }

        private boolean isThere(long n) {
            return n <= frames.size - at || fault.refuse(Fault.ENDED, frames.size);
        }

        private boolean readBegin(int begin) {
            if (begin == FRAME_BEGIN) {
                at += 4;
                return readHead();
            }
            if ((begin & ~KIND_BITS) == SKIPPED_BEGIN) {
                at += 4;
                return readSkipped();
            }
            return fault.refuse(Fault.NO_FRAME, at);
        }

        private boolean readSkipped() {
            if (!isThere(4)) {
                return false;
            }
            long n = frames.numberAt(at, 4);
            at += 4;
            if (!isThere(n)) {
                return false;
            }
            at += (int) n;
            framesRead++;
            return true;
        }

        private boolean readHead() {
            int head = at;
            if (!readFlags() || !readCode() || !readSize() || !isThere(1)) {
                return false;
            }
            int check = frames.hashOf(head, at - head, 0) >>> 8 & 255;
            if (frames.get(at) != check) {
                return fault.refuse(Fault.HEAD_CHECK, at);
            }
            at++;
            inFrame = true;
            frameStart = output.size;
            return true;
        }

        private boolean readFlags() {
            if (!isThere(1)) {
                return false;
            }
            flags = frames.get(at);
            if ((flags & 0xC3) != FLAG_VERSION) {
                return fault.refuse(Fault.HEAD, at);
            }
            at++;
            return true;
        }

        private boolean readCode() {
            if (!isThere(1)) {
                return false;
            }
            int bd = frames.get(at);
            int code = bd >> 4;
            if ((bd & 0x8F) != 0 || code < 4) {
                return fault.refuse(Fault.HEAD, at);
            }
            most = 1 << (8 + 2 * code);
            at++;
            return true;
        }

        private boolean readSize() {
            if ((flags & FLAG_SIZE) == 0) {
                return true;
            }
            if (!isThere(8)) {
                return false;
            }
            toldSize = frames.numberAt(at, 8);
            at += 8;
            return true;
        }

        private boolean readBlock(int sizeAndRaw) {
            int sizePlace = at;
            int n = sizeAndRaw & ~RAW_BIT;
            boolean raw = (sizeAndRaw & RAW_BIT) != 0;
            if (n > most) {
                return fault.refuse(Fault.BLOCK_SIZE, at);
            }
            at += 4;
            if (!isThere(n)) {
                return false;
            }
            int from = at;
            at += n;
            if ((flags & FLAG_CHECKS) != 0 && !readCheck(frames, from, n, Fault.BLOCK_CHECK)) {
                return false;
            }
            blocksRead++;
            if (raw) {
                return copyRaw(sizePlace, from, n);
            }
            boolean linked = (flags & FLAG_UNLINKED) == 0;
            return blockReader.readBytes(sizePlace, from + n, most, linked ? frameStart : output.size);
        }

        private boolean copyRaw(int sizePlace, int from, int n) {
            if (n > output.room()) {
                return fault.refuse(Fault.TOO_MUCH, sizePlace);
            }
            output.addPiece(frames, from, n);
            return true;
        }

        private boolean readEnd() {
            int n = output.size - frameStart;
            if ((flags & FLAG_SIZE) != 0 && toldSize != n) {
                return fault.refuse(Fault.SIZE, at);
            }
            at += 4;
            if ((flags & FLAG_CHECK_OF_ALL) != 0 && !readCheck(output, frameStart, n, Fault.CHECK_OF_ALL)) {
                return false;
            }
            inFrame = false;
            framesRead++;
            return true;
        }

        private boolean readCheck(Row row, int from, int n, int ofFault) {
            if (!isThere(4)) {
                return false;
            }
            if (frames.word(at) != row.hashOf(from, n, 0)) {
                return fault.refuse(ofFault, at);
            }
            at += 4;
            return true;
        }
    }

    /** Reads the sequences of one block after the other. Its methods tell whether there was no fault. */
    private static final class BlockReader {
        private final Row frames;
        private final Row output;
        private final Fault fault;
        private int sizePlace;
        private int at;
        private int end;
        private int most;
        private int blockStart;
        private int history;
        private int token;
        private int tokenPlace;
        private int literals;
        private int lastMatch;

        BlockReader(Row frames, Row output, Fault fault) {
            this.frames = frames;
            this.output = output;
            this.fault = fault;
        }

        /** The block's bytes lie behind the four that tell how many, up to newEnd, all of them in FRAMES. */
        boolean readBytes(int newSizePlace, int newEnd, int newMost, int newHistory) {
            sizePlace = newSizePlace;
            at = newSizePlace + 4;
            end = Math.min(newEnd, frames.size);
            most = newMost;
            blockStart = output.size;
            history = newHistory;
            lastMatch = NONE;
            while (at < end) {
                tokenPlace = at;
                token = frames.get(at);
                at++;
                if (!readLiterals()) {
                    return false;
                }
                if (at == end) {
                    return endsByRules() || breaksRules();
                }
                if (!readMatch()) {
                    return false;
                }
            }
            return breaksRules();
        }

        private boolean breaksRules() {
            return fault.refuse(Fault.BLOCK_RULES, sizePlace);
        }

        private boolean readLiterals() {
            literals = readNumber(token >> 4);
            if (literals == NONE) {
                return breaksRules();
            }
            if (!mayGrowBy(literals)) {
                return fault.refuse(Fault.TOO_MUCH, tokenPlace);
            }
            if (literals > end - at) {
                return breaksRules();
            }
            output.addPiece(frames, at, literals);
            at += literals;
            return true;
        }

        private boolean readMatch() {
            if (end - at < 2) {
                return breaksRules();
            }
            int offset = (int) frames.numberAt(at, 2);
            if (offset < 1 || offset > output.size - history) {
                return fault.refuse(Fault.OFFSET, at);
            }
            at += 2;
            int n = readNumber(token & NIBBLE_MOST);
            if (n == NONE) {
                return breaksRules();
            }
            if (!mayGrowBy(n + MATCH_LEAST)) {
                return fault.refuse(Fault.TOO_MUCH, tokenPlace);
            }
            lastMatch = output.size;
            output.addAgain(offset, n + MATCH_LEAST);
            return true;
        }

        /** A number of which the token has the beginning; NONE when the block's bytes end in it. */
        private int readNumber(int nibble) {
            if (nibble != NIBBLE_MOST) {
                return nibble;
            }
            int n = nibble;
            while (at < end) {
                int b = frames.get(at);
                at++;
                n += b;
                if (b != 255) {
                    return n;
                }
            }
            return NONE;
        }

        private boolean mayGrowBy(int n) {
            return n <= most - (output.size - blockStart) && n <= output.room();
        }

        private boolean endsByRules() {
            if ((token & NIBBLE_MOST) != 0) {
                return false;
            }
            return lastMatch == NONE
                || literals >= LAST_LITERALS_LEAST && output.size - lastMatch >= LAST_MATCH_DISTANCE;
        }
    }
}
