/** Promises 25 to 29: mark, keep, back, count, trace. */
public final class KindsTest {
    private static final Check check = new Check();

    public static void main(String[] args) {
        mark();
        markBelowZero();
        markWrong();
        keepAndBack();
        imagesKeepWhatMayBeUndone();
        imagesKeepNothingElse();
        imageOfLost();
        imagesWrong();
        count();
        check.end();
    }

    private static void mark() {
        ThoughtBalloon b = Check.told("p2 9 1;p7 9 0;p4 9 1;t20 1;t30 0;t9 0;");
        b.begins(2, 1);
        b.begins(2, 2);
        b.begins(0, 0);
        b.minutes(3);
        check.due("HOLD", b.now(5), 17);
        check.due("HEIGHT", b.now(2), 3);
        int[][] due = {{2, 7, 4}, {3, 7, 6}, {-15, -10, -13}, {6, 14, 12}, {-15, -9, -11}, {5, 10, 7}};
        long[] traces = {1, 11, 101, 1011, 10101, 100001};
        long trace = 0;
        for (int kind = 0; kind < 6; kind++) {
            for (int p = 0; p < 3; p++) {
                check.due("mark(" + kind + ", " + p + ")", b.mark(kind, p), due[kind][p]);
                trace += traces[kind];
                check.due("trace()", b.trace(), trace);
            }
        }
        b.undo();
        check.due("the trace is not undone", b.trace(), trace);
    }

    private static void markBelowZero() {
        ThoughtBalloon b = Check.told("p1 9 1;p1 1 0;t2 0;");
        b.begins(0, 0);
        check.due("1 less 2 is no refusal", b.mark(2, 0), -1);
        check.due("and his number", b.mark(4, 1), 0);
    }

    private static void markWrong() {
        ThoughtBalloon b = Check.told("p1 9 1;");
        check.due("mark(-1, 0)", b.mark(-1, 0), -1000000);
        check.due("mark(6, 0)", b.mark(6, 0), -1000000);
        check.due("mark(0, -1)", b.mark(0, -1), -1000000);
        check.due("mark(0, 1)", b.mark(0, 1), -1000000);
        check.due("nothing came to the trace", b.trace(), 0);
        check.due("nobody", new ThoughtBalloon().mark(0, 0), -1000000);
    }

    private static void keepAndBack() {
        ThoughtBalloon b = Check.told("w1 4;w2 5;p1 5 1;p2 9 1;p3 9 0;t9 1;t30 2;x11;");
        b.leaves(1);
        b.begins(0, 1);
        b.minutes(2);
        check.due("keep(0)", b.keep(0), 2);
        String kept = Check.all(b);
        b.minutes(9);
        b.minutes(9);
        b.begins(0, 0);
        b.enters(2);
        check.due("keep(1)", b.keep(1), 20);
        String second = Check.all(b);
        check.due("back(0)", b.back(0), 2);
        check.due("all is as kept", kept.equals(Check.all(b)) ? 1 : 0, 1);
        check.due("back(1)", b.back(1), 20);
        check.due("all is as kept there", second.equals(Check.all(b)) ? 1 : 0, 1);
        b.minutes(1);
        check.due("keep again", b.keep(0), 21);
        b.undo();
        check.due("the later one", b.back(0), 21);
        check.due("as often as one likes", b.back(0), 21);
    }

    private static void imagesKeepWhatMayBeUndone() {
        ThoughtBalloon b = new ThoughtBalloon();
        b.minutes(1);
        b.minutes(2);
        b.keep(0);
        for (int i = 0; i < 12; i++) {
            b.minutes(1);
        }
        check.due("back(0)", b.back(0), 3);
        check.due("two may be undone", b.count(5), 2);
        check.due("undo()", b.undo(), 1);
        check.due("the minute", b.now(0), 1);
        check.due("undo()", b.undo(), 0);
        check.due("the minute", b.now(0), 0);
        check.due("undo()", b.undo(), -2);
        check.due("back itself is not to be undone", b.back(0), 3);
        check.due("two again", b.count(5), 2);
        for (int i = 0; i < 12; i++) {
            b.minutes(1);
        }
        b.keep(1);
        for (int i = 0; i < 10; i++) {
            b.undo();
        }
        check.due("none is left", b.undo(), -2);
        b.back(1);
        for (int i = 9; i >= 0; i--) {
            check.due("ten again", b.undo(), i);
            check.due("the minute", b.now(0), 5 + i);
        }
    }

    private static void imagesKeepNothingElse() {
        ThoughtBalloon b = Check.told("p1 5 1;t9 1;");
        b.saw(0, 1, 1);
        b.keep(0);
        b.saw(0, 1, 1);
        b.hears(1, 1);
        b.mark(0, 0);
        b.type(32);
        b.back(0);
        check.due("SEEN", b.count(3), 2);
        check.due("HEARD", b.count(4), 1);
        check.due("the trace", b.trace(), 1);
        check.due("the text", b.count(6), 1);
    }

    private static void imageOfLost() {
        ThoughtBalloon b = Check.told("w1 6;p0 9 1;t9 0;x40;");
        b.keep(0);
        b.begins(0, 0);
        b.minutes(1);
        b.keep(1);
        b.back(0);
        check.due("not lost", b.now(7), 0);
        check.due("not used", b.one(0, 3), 0);
        b.back(1);
        check.due("lost", b.now(7), 1);
        check.due("used", b.one(0, 3), 1);
        check.due("who thinks", b.now(3), 0);
    }

    private static void imagesWrong() {
        ThoughtBalloon b = new ThoughtBalloon();
        check.due("keep(-1)", b.keep(-1), -1);
        check.due("keep(2)", b.keep(2), -1);
        check.due("back(-1)", b.back(-1), -1);
        check.due("back(2)", b.back(2), -1);
        check.due("none was kept", b.back(0), -2);
        check.due("keep(1)", b.keep(1), 0);
        check.due("the other was not", b.back(0), -2);
        check.due("back(1)", b.back(1), 0);
    }

    private static void count() {
        ThoughtBalloon b = Check.told("p1 5 1;p1 5 0;t9 1;t8 1;t7 1;x33;");
        b.minutes(1);
        b.saw(0, 1, 1);
        b.saw(1, 1, 1);
        b.hears(1, 1);
        b.hears(1, 1);
        b.hears(1, 1);
        b.begins(0, 0);
        b.minutes(1);
        b.minutes(1);
        for (int i = 0; i < 5; i++) {
            b.type(32);
        }
        int[] due = {2, 3, 33, 2, 3, 4, 5};
        for (int what = 0; what < due.length; what++) {
            check.due("count(" + what + ")", b.count(what), due[what]);
        }
        check.due("count(-1)", b.count(-1), -1);
        check.due("count(7)", b.count(7), -1);
    }
}
