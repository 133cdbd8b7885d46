import java.util.function.ToLongFunction;

/** Counts and prints the answers that are not the ones due; end() leaves with exit code 1 if there were some. */
final class Due {
    private int wrong;
    private int asked;

    void is(String call, long got, long want) {
        asked++;
        if (got != want) {
            tell(call + " answered " + got + ", due is " + want);
        }
    }

    void holds(String what, boolean fine) {
        is(what, fine ? 1 : 0, 1);
    }

    void same(String what, String got, String want) {
        asked++;
        if (!got.equals(want)) {
            tell(what + " is\n  " + got + ", due is\n  " + want);
        }
    }

    /** A call that is refused: its answer, and that all that can be told of the object is as before it. */
    void refused(String call, SequenceFrames x, ToLongFunction<SequenceFrames> made, long want) {
        String before = Told.of(x);
        is(call, made.applyAsLong(x), want);
        same("what is told after " + call, Told.of(x), before);
    }

    void end() {
        System.out.println(wrong == 0 ? asked + " answers are as due" : wrong + " of " + asked + " answers are not as due");
        if (wrong != 0) {
            System.exit(1);
        }
    }

    private void tell(String line) {
        wrong++;
        if (wrong <= 50) {
            System.out.println(line);
        }
    }
}
