/** All that can be told of an object, in one text: it is the same as long as nothing has changed. Some 45 calls. */
final class Told {
    private static final int[] FINE_OPTIONS = {0, 0, 0, 0, 4, 1};

    private Told() { }

    static String of(SequenceFrames x) {
        return ofAllButPlace(x) + ", place " + x.place();
    }

    static String ofAllButPlace(SequenceFrames x) {
        StringBuilder text = new StringBuilder("counts");
        for (int what = 0; what <= 8; what++) {
            text.append(' ').append(x.count(what));
        }
        text.append(", hashes");
        for (int row = 0; row <= 2; row++) {
            text.append(' ').append(x.hash(row, 0, x.count(row), 0));
        }
        text.append(", differs ").append(x.differs()).append(", sequences");
        int number = x.count(3);
        for (int what = 0; what <= 4; what++) {
            text.append(' ').append(x.sequence(0, what)).append(' ').append(x.sequence(number - 1, what));
            text.append(' ').append(x.sequence(number, what));
        }
        return text.append(", options").append(options(x)).toString();
    }

    /** An option is told only by being set: so it is set to another value, and back. */
    static String options(SequenceFrames x) {
        StringBuilder text = new StringBuilder();
        for (int what = 0; what <= 5; what++) {
            int v = x.option(what, FINE_OPTIONS[what]);
            x.option(what, v);
            text.append(' ').append(v);
        }
        return text.toString();
    }
}
