import java.util.function.Supplier;

/** Promises 25 to 29, sentence by sentence: mark, keep, back, count, trace. */
public final class BoundsKindsTest extends Bounds {
    /** In height 3 with HOLD 17: person 0 thinks, person 2 has used two thoughts, person 1 is out. */
    private static final Supplier<ThoughtBalloon> BUSY = () -> {
        ThoughtBalloon b = Check.told("p2 9 1;p7 9 0;p4 9 1;t20 1;t30 0;t9 0;t1 0;x30;");
        b.begins(2, 1);
        b.begins(2, 2);
        b.begins(0, 0);
        b.minutes(3);
        b.saw(0, 1, 1);
        b.hears(1, 1);
        b.type('w');
        return b;
    };

    public static void main(String[] args) throws Exception {
        new BoundsKindsTest().run();
    }

    // ---- promise 25

    @Says(promise = 25, words = "MARK. NO: BAD.")
    void markRefused() {
        for (int p = 0; p <= 2; p++) {
            bounds(BUSY, NO, 0, 0, 5, "mark", 0, p);
        }
        for (int kind = 0; kind <= 5; kind++) {
            bounds(BUSY, NO, 1, 0, 2, "mark", kind, 0);
            refused(ThoughtBalloon::new, NO, "mark", kind, 0);
        }
    }

    @Says(promise = 25, words = "ONE his WEIGHT (1).")
    void markOne() {
        marks(0, 1, 2, 7, 4);
        due(Check.told("p0 1 0;"), 0, "mark", 0, 0);
        due(Check.told("p9 1 0;"), 9, "mark", 0, 0);
    }

    @Says(promise = 25, words = "LOVER up, and how many THOUGHTS are USED by him (10).")
    void markLover() {
        marks(1, 11, 3, 7, 6);
        ThoughtBalloon b = Check.told("p9 1 1;t1 0;t1 0;t1 0;t1 0;");
        for (int t = 0; t < 4; t++) {
            due(b, 9 + t, "mark", 1, 0);
            b.begins(0, t);
        }
        due(b, 13, "mark", 1, 0);
    }

    @Says(promise = 25, words = "GRUDGE up less HOLD (100).")
    void markGrudge() {
        marks(2, 101, 2 - 17, 7 - 17, 4 - 17);
        due(Check.told("p9 1 1;"), 9, "mark", 2, 0);
        ThoughtBalloon b = Check.told("p1 9 1;p0 9 0;t30 5;");
        b.begins(0, 0);
        due(b, -29, "mark", 2, 0);
        due(b, -30, "mark", 2, 1);
        b.minutes(6);
        due(b, 1, "mark", 2, 0);
        b = Check.told("p1 9 1;t2 0;");
        b.begins(0, 0);
        due(b, -1, "mark", 2, 0);
    }

    @Says(promise = 25, words = "POET up times 2 (1000).")
    void markPoet() {
        marks(3, 1011, 6, 14, 12);
        due(Check.told("p0 1 1;"), 0, "mark", 3, 0);
    }

    @Says(promise = 25, words = "MISER up, and his number (10000).")
    void markMiser() {
        marks(4, 10101, 2 - 17, 7 - 17 + 1, 4 - 17 + 2);
        due(Check.told("p0 1 0;p0 1 0;p0 1 0;"), 2, "mark", 4, 2);
    }

    @Says(promise = 25, words = "WIFE up, and the HEIGHT (100000).")
    void markWife() {
        marks(5, 100001, 5, 10, 7);
        ThoughtBalloon b = Check.told("p9 9 1;t30 0;");
        due(b, 9, "mark", 5, 0);
        b.begins(0, 0);
        b.minutes(9);
        due(b, 18, "mark", 5, 0);
    }

    @Says(promise = 25, words = "0 ONE; 1 LOVER, 2 GRUDGE, 5 WIFE (each under ONE); 3 POET (under LOVER); 4 MISER (under "
            + "GRUDGE).")
    void markMovesTheTraceAlone() {
        for (int kind = 0; kind <= 5; kind++) {
            ThoughtBalloon b = BUSY.get();
            b.mark(kind, 2);
            holds("kind " + kind, Check.everythingUntraced(b).equals(Check.everythingUntraced(BUSY.get())));
        }
    }

    /** What each of the three is marked as of a kind, and what comes to the trace by each. */
    private void marks(int kind, long traced, int... marks) {
        ThoughtBalloon b = BUSY.get();
        for (int p = 0; p < marks.length; p++) {
            due(b, marks[p], "mark", kind, p);
            due(b, traced * (p + 1), "trace");
        }
    }

    // ---- promise 26

    @Says(promise = 26, words = "An IMAGE is kept: the minute. BAD.")
    void keepRefused() {
        bounds(BUSY, BAD, 0, 0, 1, "keep", 0);
        due(new ThoughtBalloon(), 0, "keep", 0);
        due(at("x7;", 99), 99, "keep", 1);
        ThoughtBalloon b = BUSY.get();
        due(b, 3, "keep", 0);
        due(b, 4, "count", 5);
        b.undo();
        due(b, 0, "keep", 0);
        due(b, 0, "back", 0);
    }

    @Says(promise = 26, words = "IMAGES 0, 1 keep NOW (minute, CELL, HEIGHT, who thinks what since when, who is IN, what "
            + "is USED, LOST, what may be UNDONE)")
    void keepAll() {
        for (int image = 0; image <= 1; image++) {
            ThoughtBalloon b = BUSY.get();
            ThoughtBalloon kept = BUSY.get();
            b.keep(image);
            kept.keep(image);
            b.begins(2, 3);
            b.minutes(9);
            b.minutes(9);
            b.leaves(0);
            b.enters(1);
            due(b, 3, "back", image);
            alike("all of it is as kept", b, kept);
        }
        ThoughtBalloon b = Check.told("w1 6;p0 9 1;t5 1;t1 0;x38;");
        b.begins(0, 0);
        b.keep(0);
        b.minutes(1);
        b.keep(1);
        b.back(0);
        due(b, 0, "now", 7);
        due(b, 5, "now", 5);
        due(b, 1, "begins", 0, 1);
        b.back(1);
        due(b, 1, "now", 7);
        due(b, 4, "now", 5);
        due(b, 1, "one", 0, 3);
    }

    @Says(promise = 26, words = "what may be UNDONE); nothing else.")
    void keepNothingElse() {
        ThoughtBalloon b = BUSY.get();
        b.keep(0);
        b.saw(1, 2, 2);
        b.hears(2, 2);
        b.type(32);
        b.mark(4, 0);
        b.keep(1);
        b.back(0);
        due(b, 2, "count", 3);
        due(b, 2, "count", 4);
        due(b, 2, "count", 6);
        due(b, 10101, "trace");
        due(b, 3, "back", 1);
        b.forget();
        b.clear();
        b.back(0);
        due(b, 0, "count", 3);
        due(b, 0, "count", 4);
        due(b, 0, "count", 6);
    }

    // ---- promise 27

    @Says(promise = 27, words = "All of that becomes as an IMAGE has it: the minute. BAD; STATE: none was kept.")
    void backRefused() {
        Supplier<ThoughtBalloon> kept = () -> {
            ThoughtBalloon b = BUSY.get();
            b.keep(0);
            b.keep(1);
            b.minutes(1);
            return b;
        };
        bounds(kept, BAD, 0, 0, 1, "back", 0);
        refused(BUSY, STATE, "back", 0);
        refused(BUSY, STATE, "back", 1);
        refused(BUSY, BAD, "back", 2);
        for (int image = 0; image <= 1; image++) {
            ThoughtBalloon b = new ThoughtBalloon();
            b.keep(image);
            due(b, STATE, "back", 1 - image);
            due(b, 0, "back", image);
            due(b, 0, "back", image);
        }
    }

    @Says(promise = 27, words = "UNDONE: the latest BEGUN, MINUTES, IN, OUT (10 are known, older ones are lost)")
    void backToWhatMayBeUndone() {
        ThoughtBalloon b = new ThoughtBalloon();
        b.keep(0);
        pass(b, 99);
        b.keep(1);
        due(b, 0, "back", 0);
        due(b, STATE, "undo");
        due(b, 99, "back", 1);
        for (int left = 9; left >= 0; left--) {
            due(b, left, "undo");
        }
        due(b, STATE, "undo");
        due(b, 9, "now", 0);
        due(b, 99, "back", 1);
        due(b, 10, "count", 5);
    }

    @Says(promise = 27, words = "what may be UNDONE); nothing else.")
    void backToDeedsThatWereUndone() {
        for (int image = 0; image <= 1; image++) {
            ThoughtBalloon b = BUSY.get();
            ThoughtBalloon kept = BUSY.get();
            b.keep(image);
            kept.keep(image);
            for (int i = 0; i < 4; i++) {
                b.undo();
            }
            for (int i = 0; i < 12; i++) {
                b.minutes(2);
            }
            b.keep(1 - image);
            kept.keep(1 - image);
            b.back(image);
            b.keep(1 - image);
            alike("each is known as it was", b, kept);
        }
    }

    @Says(promise = 27, words = "IMAGES are gone.)")
    void backWhenReadAnew() {
        ThoughtBalloon b = BUSY.get();
        b.keep(0);
        b.keep(1);
        due(b, -10 - 1, "sheds");
        due(b, 3, "back", 0);
        b.clear();
        due(b, 0, "sheds");
        due(b, STATE, "back", 0);
        due(b, STATE, "back", 1);
        due(b, BAD, "back", 2);
    }

    // ---- promise 28

    @Says(promise = 28, words = "0 PEOPLE, 1 THOUGHTS, 2 START, 3 SEEN, 4 HEARD, 5 how many may be UNDONE, 6 bytes of "
            + "THE TEXT. BAD.")
    void countRefused() {
        bounds(BUSY, BAD, 0, 0, 6, "count", 0);
        int[] due = {3, 4, 30, 1, 1, 4, 1};
        for (int what = 0; what <= 6; what++) {
            due(new ThoughtBalloon(), what == 2 ? 20 : 0, "count", what);
            due(BUSY.get(), due[what], "count", what);
        }
    }

    @Says(promise = 28, words = "2 START")
    void countStartIsNoCell() {
        ThoughtBalloon b = Check.told("w1 6;p0 9 1;t1 0;x0;");
        b.begins(0, 0);
        b.minutes(1);
        due(b, 3, "now", 1);
        due(b, 0, "count", 2);
        due(Check.told("x40;"), 40, "count", 2);
    }

    // ---- promise 29

    @Says(promise = 29, words = "THE TRACE.")
    void traceAtFirst() {
        due(new ThoughtBalloon(), 0, "trace");
        ThoughtBalloon b = BUSY.get();
        due(b, 0, "trace");
        b.keep(0);
        b.mark(0, 0);
        due(b, 1, "trace");
        due(b, 1, "trace");
        b.undo();
        b.back(0);
        due(b, 1, "trace");
    }

    @Says(promise = 29, words = "(numbers in brackets come to THE TRACE as often as mark() asks that body; \"up\" is what "
            + "the KIND above does)")
    void traceOfEachKind() {
        int[] traced = {1, 11, 101, 1011, 10101, 100001};
        ThoughtBalloon all = BUSY.get();
        long sum = 0;
        for (int kind = 0; kind <= 5; kind++) {
            ThoughtBalloon b = BUSY.get();
            b.mark(kind, 1);
            due(b, traced[kind], "trace");
            b.mark(kind, 1);
            due(b, 2 * traced[kind], "trace");
            b.mark(kind, 3);
            b.mark(6, 1);
            b.mark(-1, 1);
            due(b, 2 * traced[kind], "trace");
            all.mark(kind, 1);
            sum += traced[kind];
        }
        due(all, sum, "trace");
    }

    @Says(promise = 29, words = "(Read anew: as told, nothing SEEN, HEARD or to be UNDONE, IMAGES are gone.)")
    void traceGoesOnWhenReadAnew() {
        ThoughtBalloon b = BUSY.get();
        b.mark(5, 0);
        b.clear();
        b.sheds();
        due(b, 100001, "trace");
        for (int i = 0; i < 400; i++) {
            b.mark(5, 0);
        }
        due(b, 100001, "trace");
        b = Check.told("p1 1 1;");
        for (int i = 0; i < 490; i++) {
            b.mark(5, 0);
        }
        due(b, 490L * 100001, "trace");
    }
}
