import java.util.function.Supplier;

/** Promises 14 to 18, sentence by sentence: after, down, best, own, odds. */
public final class BoundsCouldTest extends Bounds {
    private static final String WINDS = "w1 4;w2 4;w3 4;w4 4;w5 4;w6 4;w7 4;w8 4;w9 4;";
    /** In height 2, three people, four thoughts, something seen, heard, kept and to be undone. */
    private static final Supplier<ThoughtBalloon> BUSY = () -> {
        ThoughtBalloon b = flown("w1 5;w2 3;w3 6;p3 4 1;p2 9 1;p0 9 0;t9 1;t6 0;t30 5;t7 0;x10;", 2);
        b.saw(0, 1, 3);
        b.hears(1, 1);
        b.keep(0);
        b.begins(1, 1);
        return b;
    };

    public static void main(String[] args) throws Exception {
        new BoundsCouldTest().run();
    }

    /** A balloon in the last minute, in which nothing has been begun. */
    private static ThoughtBalloon late(String text) {
        return at(text, 99);
    }

    // ---- promise 14

    @Says(promise = 14, words = "IN n minutes: CELL (what = 0), HEIGHT (1). BAD.")
    void afterRefused() {
        bounds(BUSY, BAD, 0, 0, 30, "after", 1, 0);
        bounds(BUSY, BAD, 0, 0, 30, "after", 1, 1);
        bounds(BUSY, BAD, 1, 0, 1, "after", 0, 0);
        bounds(BUSY, BAD, 1, 0, 1, "after", 30, 0);
    }

    @Says(promise = 14, words = "IN n (0 .. 30) minutes, nothing else being done: CELL, HEIGHT.")
    void afterNoneToThirty() {
        ThoughtBalloon b = flown(WINDS + "p0 9 1;t1 0;x5;", 0);
        due(b, 5, "after", 0, 0);
        due(b, 0, "after", 0, 1);
        due(b, 6, "after", 1, 0);
        due(b, 1, "after", 1, 1);
        due(b, 34, "after", 29, 0);
        due(b, 35, "after", 30, 0);
        due(b, 9, "after", 30, 1);
        due(flown(WINDS + "p0 9 1;t1 0;x10;", 0), 40, "after", 30, 0);
        due(flown(WINDS + "p0 9 1;t1 0;x11;", 0), 40, "after", 30, 0);
        due(flown("w1 6;p0 9 1;t1 0;x38;", 0), 1, "after", 30, 1);
        due(flown("p1 9 1;t30 0;", 0), 1, "after", 17, 1);
        due(flown("p1 9 1;t30 0;", 0), 0, "after", 18, 1);
    }

    @Says(promise = 14, words = "(Nothing is changed; minutes beyond 99, too.)")
    void afterBeyond99() {
        ThoughtBalloon b = late(WINDS + "p0 9 1;t1 0;x5;");
        b.begins(0, 0);
        due(b, 6, "after", 1, 0);
        due(b, 35, "after", 30, 0);
        due(b, 9, "after", 30, 1);
        due(b, 99, "now", 0);
        due(b, STATE, "minutes", 1);
        unchanged("after", 30, 0);
        unchanged("after", 1, 1);
    }

    // ---- promise 15

    @Says(promise = 15, words = "DOWN: in how many minutes (1 .. 60) it is on the ground first")
    void downInHowMany() {
        due(new ThoughtBalloon(), 1, "down");
        due(Check.told("p0 1 1;"), 1, "down");
        due(flown("p5 9 1;t5 0;", 0), 1, "down");
        due(flown("p5 1 1;t6 0;", 0), 2, "down");
        due(flown("p1 9 1;t30 0;", 0), 18, "down");
        due(flown("p1 9 1;t30 0;", 9), 9, "down");
        due(flown("p1 9 1;t30 0;", 17), 1, "down");
        due(flown("p1 9 1;t30 0;", 18), 1, "down");
        due(flown("p5 9 1;t6 1;", 0), 1, "down");
    }

    @Says(promise = 15, words = "NONE (or it is LOST by then).")
    void downNeverOrLost() {
        due(flown("p0 1 1;t1 0;", 0), NONE, "down");
        due(flown("p0 1 1;t1 0;", 9), NONE, "down");
        String text = "w3 6;p1 4 1;t30 0;";
        due(flown(text + "x34;", 0), 8, "down");
        due(flown(text + "x35;", 0), NONE, "down");
        text = "w3 0;p1 4 1;t30 0;";
        due(flown(text + "x6;", 0), 8, "down");
        due(flown(text + "x5;", 0), NONE, "down");
        due(flown("w1 6;p1 1 1;t30 0;x37;", 1), 1, "down");
        due(flown("w1 6;p1 1 1;t30 0;x38;", 1), NONE, "down");
    }

    @Says(promise = 15, words = "DOWN; NONE.")
    void downOfALostCar() {
        due(flown("w1 6;p1 1 1;t30 0;x38;", 9), NONE, "down");
        due(flown("w1 0;p1 1 1;t30 0;x2;", 1), NONE, "down");
        due(flown("w1 0;p1 1 1;t30 0;x3;", 1), 1, "down");
    }

    @Says(promise = 15, words = "(Nothing is changed; minutes beyond 99, too.)")
    void downBeyond99() {
        ThoughtBalloon b = late("p1 9 1;t30 0;");
        b.begins(0, 0);
        due(b, 18, "down");
        due(b, 99, "now", 0);
        unchanged("down");
    }

    // ---- promise 16

    @Says(promise = 16, words = "BEST: how great (k = -1), the k-th choice (NONE: none, there are not so many). BAD (k "
            + "-1 .. 3).")
    void bestRefused() {
        for (int what = 0; what <= 1; what++) {
            bounds(BUSY, BAD, 0, 0, 4, "best", 1, what, -1);
            bounds(BUSY, BAD, 2, -1, 3, "best", 0, what, 0);
            bounds(BUSY, BAD, 2, -1, 3, "best", 4, what, 0);
        }
        bounds(BUSY, BAD, 1, 0, 1, "best", 4, 0, -1);
    }

    @Says(promise = 16, words = "the k-th choice (NONE: none, there are not so many)")
    void bestNotSoMany() {
        ThoughtBalloon b = Check.told("p9 9 1;t15 5;t15 5;t15 5;t15 5;");
        for (int n = 0; n <= 4; n++) {
            due(b, n, "best", n, 1, -1);
            for (int k = 0; k <= 3; k++) {
                due(b, k < n ? k : NONE, "best", n, 1, k);
            }
        }
        for (int k = 0; k <= 3; k++) {
            due(Check.told("p9 9 1;"), NONE, "best", 4, 1, k);
            due(new ThoughtBalloon(), NONE, "best", 4, 0, k);
        }
    }

    @Says(promise = 16, words = "BEST in n (0 .. 4) minutes: ahead of each one THOUGHT may be BEGUN as in 2 (or none)")
    void bestInMinutes() {
        ThoughtBalloon b = flown(WINDS + "p0 9 1;t1 0;x5;", 3);
        for (int n = 0; n <= 4; n++) {
            due(b, 8 + n, "best", n, 0, -1);
            due(b, 3 + n, "best", n, 1, -1);
        }
        due(Check.told("p0 9 0;t1 0;"), 0, "best", 4, 1, -1);
        due(Check.told("p0 9 1;t1 0;"), 4, "best", 4, 1, -1);
        due(flown("p1 1 1;t9 0;", 2), 0, "best", 4, 1, -1);
        due(flown("p1 1 1;t9 0;t9 0;", 2), 1, "best", 4, 1, -1);
    }

    @Says(promise = 16, words = "of all such rows that behind which the CELL (what = 0) or the HEIGHT (1) is greatest")
    void bestCellOrHeight() {
        ThoughtBalloon b = Check.told("w1 2;w2 2;p0 9 1;t1 0;x7;");
        due(b, 7, "best", 2, 0, -1);
        due(b, NONE, "best", 2, 0, 0);
        due(b, 2, "best", 2, 1, -1);
        due(b, 0, "best", 2, 1, 0);
        due(Check.told("w1 6;p0 9 1;t1 0;x38;"), 40, "best", 1, 0, -1);
        due(Check.told("w1 6;p0 9 1;t1 0;x38;"), 1, "best", 4, 1, -1);
        due(flown(WINDS + "p0 9 1;t1 0;t1 0;x5;", 9), 9, "best", 4, 1, -1);
        due(flown("w1 0;w2 0;p0 9 1;t1 0;x3;", 1), 0, "best", 1, 0, -1);
        ThoughtBalloon down = flown("w1 0;w2 0;p3 9 1;t30 0;t1 0;x20;", 1);
        due(down, 17, "best", 4, 0, -1);
        due(down, 1, "best", 4, 0, 0);
        ThoughtBalloon lower = flown("w1 6;w2 0;w3 0;p3 9 1;t30 0;t1 0;x20;", 2);
        due(lower, 23, "best", 1, 0, -1);
        due(lower, 1, "best", 1, 0, 0);
        ThoughtBalloon top = flown("w8 0;w9 6;p1 9 1;t30 0;t30 0;x10;", 9);
        due(top, 22, "best", 4, 0, -1);
        due(top, 1, "best", 4, 0, 0);
        due(flown("w1 0;w2 0;p0 9 1;t1 0;x2;", 1), 0, "best", 1, 0, -1);
        due(flown("w1 0;w2 0;p0 9 1;t1 0;x2;", 1), 1, "best", 4, 1, -1);
    }

    @Says(promise = 16, words = "of several the first (minute by minute: none ahead of THOUGHTS of PERSON 0, then 1, "
            + ".., each from 0 on)")
    void bestFirstOfSeveral() {
        due(Check.told("p0 9 1;t1 0;"), NONE, "best", 1, 0, 0);
        due(Check.told("p0 9 1;t1 0;t1 0;"), 0, "best", 1, 1, 0);
        due(Check.told("p0 9 1;p0 9 1;t1 0;t1 0;"), 0, "best", 1, 1, 0);
        due(Check.told("p0 9 0;p0 9 1;t1 0;t1 0;"), 4, "best", 1, 1, 0);
        ThoughtBalloon b = Check.told("w1 6;p0 9 1;t1 0;x37;");
        due(b, 40, "best", 3, 0, -1);
        due(b, NONE, "best", 3, 0, 0);
        due(b, NONE, "best", 3, 0, 1);
        due(b, 0, "best", 3, 0, 2);
        b = Check.told("p1 1 1;p0 9 1;t2 0;t3 0;");
        due(b, 0, "best", 3, 1, 0);
        due(b, 1, "best", 3, 1, 1);
        due(b, 4, "best", 3, 1, 2);
    }

    @Says(promise = 16, words = "4 times the PERSON and the THOUGHT; NONE (none is BEGUN).")
    void bestChoice() {
        due(Check.told("p5 9 1;t6 0;"), 0, "best", 1, 1, 0);
        due(Check.told("p9 1 0;p9 1 0;p9 9 1;t9 0;t9 0;t9 0;t10 0;"), 11, "best", 1, 1, 0);
        due(Check.told("p9 1 0;p9 1 1;t9 0;t9 0;t9 0;t10 0;"), 7, "best", 1, 1, 0);
        due(Check.told("p9 1 1;t9 0;"), NONE, "best", 1, 1, 0);
    }

    @Says(promise = 16, words = "A THOUGHT is BEGUN by one who is IN, if it is not USED by him")
    void bestBegunAsTold() {
        ThoughtBalloon b = flown("p1 1 1;p1 1 0;t9 0;", 2);
        due(b, NONE, "best", 1, 1, 0);
        b.enters(1);
        due(b, 4, "best", 1, 1, 0);
        due(Check.told("p9 9 1;t15 5;"), 1, "best", 4, 1, -1);
        due(flown("w1 6;p0 9 1;t1 0;t1 0;x40;", 1), NONE, "best", 4, 0, 0);
        due(flown("w1 6;p5 1 1;t9 0;t9 0;x38;", 1), 1, "best", 4, 1, -1);
    }

    @Says(promise = 16, words = "(Nothing is changed; minutes beyond 99, too.)")
    void bestBeyond99() {
        ThoughtBalloon b = late(WINDS + "p0 9 1;t1 0;x5;");
        due(b, 9, "best", 4, 0, -1);
        due(b, 0, "best", 4, 0, 0);
        due(b, 4, "best", 4, 1, -1);
        due(b, 99, "now", 0);
        unchanged("best", 4, 0, -1);
        unchanged("best", 4, 1, 3);
    }

    // ---- promise 17

    @Says(promise = 17, words = "OWN: how many (p = -1), the THOUGHT of one; NONE. BAD.")
    void ownRefused() {
        bounds(BUSY, BAD, 0, -1, 2, "own", 0);
        bounds(() -> Check.told("p1 1 1;t2 0;"), BAD, 0, -1, 0, "own", 0);
        due(new ThoughtBalloon(), 0, "own", -1);
        refused(ThoughtBalloon::new, BAD, "own", 0);
        refused(ThoughtBalloon::new, BAD, "own", -2);
    }

    @Says(promise = 17, words = "OWN: the most of PEOPLE who can each have a THOUGHT of his own that LIFTS him: how many")
    void ownHowMany() {
        due(Check.told("p9 1 0;t9 0;"), 0, "own", -1);
        due(Check.told("p9 1 0;t10 0;"), 1, "own", -1);
        due(Check.told("p0 1 0;p0 1 0;t1 0;"), 1, "own", -1);
        due(Check.told("p0 1 0;p0 1 0;t1 0;t1 0;"), 2, "own", -1);
        due(Check.told("p0 1 0;p0 1 0;p0 1 0;t1 0;t1 0;t1 0;"), 3, "own", -1);
        due(Check.told("p0 1 0;p0 1 0;p0 1 0;t1 0;t1 0;t1 0;t1 0;"), 3, "own", -1);
        due(Check.told("p0 1 0;p9 1 0;t10 0;t1 0;"), 2, "own", -1);
        due(Check.told("t1 0;t1 0;"), 0, "own", -1);
    }

    @Says(promise = 17, words = "of a PERSON which, in the first of all ways with so many (PERSON by PERSON: the lowest "
            + "THOUGHT first, none last); NONE.")
    void ownFirstWay() {
        owns("p0 1 0;p0 1 0;p0 1 0;t1 0;", 0, NONE, NONE);
        owns("p0 1 0;p0 1 0;p0 1 0;t1 0;t1 0;t1 0;t1 0;", 0, 1, 2);
        owns("p0 1 0;p9 1 0;p9 1 0;t10 0;t10 0;t1 0;t1 0;", 2, 0, 1);
        owns("p9 1 0;p9 1 0;p9 1 0;t9 0;t9 0;t9 0;t10 0;", 3, NONE, NONE);
        owns("p9 1 0;p5 1 0;p0 1 0;t9 0;t6 0;t1 0;", NONE, 0, 1);
        owns("p0 1 0;p5 1 0;p0 1 0;t6 0;t1 0;", 0, NONE, 1);
        owns("p1 1 0;p1 1 0;p1 1 0;t1 0;t1 0;t1 0;t1 0;", NONE, NONE, NONE);
    }

    @Says(promise = 17, words = "(Nothing is changed; minutes beyond 99, too.)")
    void ownChangesNothing() {
        unchanged("own", -1);
        unchanged("own", 2);
    }

    private void owns(String text, int... thoughts) {
        for (int p = 0; p < thoughts.length; p++) {
            due(Check.told(text), thoughts[p], "own", p);
        }
    }

    // ---- promise 18

    @Says(promise = 18, words = "ODDS: upper (what = 0), lower number (1), in least terms. BAD.")
    void oddsRefused() {
        bounds(BUSY, BAD, 0, 1, 9, "odds", 1, 10, 1, 1, 0);
        bounds(BUSY, BAD, 1, 0, 40, "odds", 1, 10, 1, 1, 0);
        bounds(BUSY, BAD, 2, 0, 6, "odds", 1, 10, 1, 1, 0);
        bounds(BUSY, BAD, 3, 0, 10, "odds", 1, 10, 1, 1, 0);
        bounds(BUSY, BAD, 4, 0, 1, "odds", 1, 10, 1, 1, 0);
    }

    @Says(promise = 18, words = "in least terms")
    void oddsInLeastTerms() {
        ThoughtBalloon b = Check.told("w1 4;");
        odds(b, 1, 20, 0, 5, 1, 1);
        odds(b, 1, 21, 0, 5, 0, 1);
        odds(b, 1, 40, 6, 5, 0, 1);
        odds(b, 1, 21, 1, 5, 1, 2);
        odds(b, 1, 21, 1, 6, 2, 5);
        odds(b, 1, 21, 1, 7, 3, 10);
        odds(b, 1, 26, 6, 9, 1, 1000000);
        odds(b, 1, 26, 6, 0, 1, 1);
    }

    @Says(promise = 18, words = "ODDS by x (0 .. 10), n (0 .. 6) for a HEIGHT (1 .. 9) and a CELL")
    void oddsByEach() {
        ThoughtBalloon b = Check.told("w1 4;w9 6;");
        odds(b, 1, 21, 1, 0, 1, 1);
        odds(b, 1, 19, 1, 0, 0, 1);
        odds(b, 1, 21, 1, 10, 0, 1);
        odds(b, 1, 19, 1, 10, 1, 1);
        odds(b, 1, 21, 1, 1, 9, 10);
        odds(b, 1, 19, 1, 9, 9, 10);
        odds(b, 9, 23, 1, 1, 9, 10);
        odds(b, 9, 38, 6, 0, 1, 1);
        odds(b, 9, 2, 6, 10, 1, 1);
        odds(Check.told("w1 4;x0;"), 1, 0, 0, 3, 1, 1);
        odds(Check.told("w1 4;x40;"), 1, 40, 0, 3, 1, 1);
    }

    @Says(promise = 18, words = "the car is at the CELL where it is NOW, goes on n minutes at that HEIGHT")
    void oddsFromNow() {
        ThoughtBalloon b = flown("w1 4;w2 4;w3 6;p0 9 1;t1 0;x5;", 2);
        due(b, 7, "now", 1);
        odds(b, 3, 10, 1, 0, 1, 1);
        odds(b, 3, 7, 0, 0, 1, 1);
        odds(b, 3, 8, 1, 0, 0, 1);
        b.undo();
        odds(b, 3, 5, 0, 0, 1, 1);
    }

    @Says(promise = 18, words = "WIND being turned (the other way) by x of 10 in each, for itself")
    void oddsTurned() {
        ThoughtBalloon b = Check.told("w1 4;w2 3;");
        odds(b, 1, 20, 2, 5, 1, 2);
        odds(b, 1, 22, 2, 5, 1, 4);
        odds(b, 1, 18, 2, 2, 1, 25);
        odds(b, 1, 20, 2, 2, 8, 25);
        odds(b, 1, 23, 3, 1, 729, 1000);
        odds(b, 2, 20, 6, 5, 1, 1);
        odds(b, 2, 21, 6, 5, 0, 1);
    }

    @Says(promise = 18, words = "that it is at that CELL then, never having been beyond 0 .. 40: a fraction.")
    void oddsNeverBeyond() {
        odds(Check.told("w1 6;x37;"), 1, 40, 1, 0, 1, 1);
        odds(Check.told("w1 6;x38;"), 1, 40, 1, 0, 0, 1);
        odds(Check.told("w1 0;x3;"), 1, 0, 1, 0, 1, 1);
        odds(Check.told("w1 0;x2;"), 1, 0, 1, 0, 0, 1);
        odds(Check.told("w1 4;x40;"), 1, 40, 2, 5, 1, 4);
        odds(Check.told("w1 4;x39;"), 1, 39, 2, 5, 1, 2);
        odds(Check.told("w1 4;x38;"), 1, 38, 4, 5, 3, 8);
        odds(Check.told("w1 4;x0;"), 1, 0, 2, 5, 1, 4);
        odds(Check.told("w1 4;x1;"), 1, 1, 2, 5, 1, 2);
        odds(Check.told("w1 4;x37;"), 1, 40, 3, 5, 1, 8);
    }

    @Says(promise = 18, words = "(Nothing is changed; minutes beyond 99, too.)")
    void oddsBeyond99() {
        odds(late("w1 4;x5;"), 1, 11, 6, 0, 1, 1);
        unchanged("odds", 1, 20, 6, 5, 0);
        unchanged("odds", 1, 20, 6, 5, 1);
    }

    private void odds(ThoughtBalloon b, int h, int cell, int n, int x, int upper, int lower) {
        due(b, upper, "odds", h, cell, n, x, 0);
        due(b, lower, "odds", h, cell, n, x, 1);
    }

    /** A call that is not refused changes nothing. */
    private void unchanged(String call, int... numbers) {
        long answer = ask(BUSY.get(), call, numbers);
        holds(call + " is not refused", answer >= 0 || answer == NONE);
        refused(BUSY, answer, call, numbers);
    }
}
