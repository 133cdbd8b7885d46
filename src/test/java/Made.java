/** Objects in states that the tests begin with. */
final class Made {
    private Made() { }

    /** Nothing of it is as in a new object: rows, options, sequences, counts, place. Some 15 calls. */
    static SequenceFrames used() {
        SequenceFrames x = new SequenceFrames();
        int[] options = {1, 1, 1, 1, 5, 40};
        for (int what = 0; what <= 5; what++) {
            x.option(what, options[what]);
        }
        x.mix(3, 50);
        x.again(50, 50);
        x.pack();
        x.skip(2, 3, 4);
        x.read();
        x.change(9, 1 + x.octet(0, 9));
        x.give(1, 1);
        x.read();
        return x;
    }

    static SequenceFrames withContent(int n) {
        SequenceFrames x = new SequenceFrames();
        contentTo(x, n);
        return x;
    }

    /** Puts bytes by a seed until CONTENT has n. */
    static void contentTo(SequenceFrames x, int n) {
        for (int left = n - x.count(0); left > 0; left = n - x.count(0)) {
            x.mix(n, Math.min(70000, left));
        }
    }

    static SequenceFrames withFrames(int n) {
        SequenceFrames x = new SequenceFrames();
        framesTo(x, n);
        return x;
    }

    /** Puts skipped frames, and a few bytes at last, until FRAMES have n. Some 300 calls at most. */
    static void framesTo(SequenceFrames x, int n) {
        for (int left = n - x.count(1); left > 0; left = n - x.count(1)) {
            if (left >= 8) {
                x.skip(0, Math.min(1000, left - 8), 7);
            } else {
                x.give(0, left);
            }
        }
    }

    static SequenceFrames given(Bytes frames) {
        SequenceFrames x = new SequenceFrames();
        frames.giveTo(x);
        return x;
    }
}
