import java.util.Arrays;

/** A row of bytes that grows, for frames written by hand in the tests. */
final class Bytes {
    private int[] bytes = new int[64];
    private int size;

    int size() {
        return size;
    }

    int at(int i) {
        return bytes[i];
    }

    Bytes add(int... more) {
        for (int b : more) {
            if (size == bytes.length) {
                bytes = Arrays.copyOf(bytes, 2 * size);
            }
            bytes[size++] = b & 255;
        }
        return this;
    }

    Bytes run(int b, int n) {
        for (int i = 0; i < n; i++) {
            add(b);
        }
        return this;
    }

    Bytes add(Bytes other) {
        return add(other.toArray());
    }

    /** A number of n bytes, the lowest first. */
    Bytes number(long v, int n) {
        for (int i = 0; i < n; i++) {
            add((int) (v >> (8 * i)));
        }
        return this;
    }

    /** The four bytes that begin a frame, its FLG, BD, SIZE if flg tells it, and the HC that is due. */
    Bytes head(int flg, int bd, long sizeTold) {
        add(4, 34, 77, 24);
        Bytes head = new Bytes().add(flg, bd);
        if ((flg & 8) != 0) {
            head.number(sizeTold, 8);
        }
        return add(head).add((int) (Model.hashOf(head.toArray(), 0) >> 8));
    }

    Bytes head(int flg, int bd) {
        return head(flg, bd, 0);
    }

    /** How many bytes a packed block has, and these. */
    Bytes block(Bytes packed) {
        return number(packed.size, 4).add(packed);
    }

    Bytes raw(Bytes bytes) {
        return number(bytes.size | 1L << 31, 4).add(bytes);
    }

    Bytes check(Bytes of) {
        return number(Model.hashOf(of.toArray(), 0), 4);
    }

    Bytes zeros() {
        return add(0, 0, 0, 0);
    }

    int[] toArray() {
        return Arrays.copyOf(bytes, size);
    }

    /** Puts all bytes behind FRAMES by give(), eight a call. */
    void giveTo(SequenceFrames x) {
        for (int i = 0; i < size; i += 8) {
            x.give(upToEightAt(i), Math.min(8, size - i));
        }
    }

    /** Puts all bytes behind CONTENT by feed(), eight a call. */
    void feedTo(SequenceFrames x) {
        for (int i = 0; i < size; i += 8) {
            x.feed(upToEightAt(i), Math.min(8, size - i));
        }
    }

    private long upToEightAt(int i) {
        long v = 0;
        for (int k = i; k < Math.min(size, i + 8); k++) {
            v = v << 8 | bytes[k];
        }
        return v;
    }

    /** The bytes first, first + 1 .. (256 at most), each another one. */
    Bytes upFrom(int first, int n) {
        for (int i = 0; i < n; i++) {
            add(first + i);
        }
        return this;
    }
}
