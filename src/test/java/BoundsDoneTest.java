import java.util.function.Consumer;
import java.util.function.Supplier;

/** Promises 8 to 13, sentence by sentence: begins, minutes, enters, leaves, undo, now. */
public final class BoundsDoneTest extends Bounds {
    private static final String FOUR = "t9 1;t4 0;t30 5;t1 0;";
    /** On the ground, all in, something done, seen and kept. */
    private static final Supplier<ThoughtBalloon> ALL_IN = () -> {
        ThoughtBalloon b = at("w1 4;p2 9 1;p1 3 1;p0 1 1;" + FOUR, 2);
        b.saw(0, 1, 1);
        b.hears(1, 1);
        b.keep(1);
        return b;
    };
    /** The same with nobody in. */
    private static final Supplier<ThoughtBalloon> ALL_OUT = () -> {
        ThoughtBalloon b = at("w1 4;p2 9 0;p1 3 0;p0 1 0;" + FOUR, 2);
        b.keep(0);
        return b;
    };
    /** In height 1 over cell 40, and not lost; person 1 is out. */
    private static final Supplier<ThoughtBalloon> HIGH = () -> flown("w1 6;w2 6;p0 9 1;p1 9 0;" + FOUR + "x37;", 1);
    /** Lost in height 1; person 1 is out. */
    private static final Supplier<ThoughtBalloon> LOST = () -> flown("w1 6;w2 6;p0 9 1;p1 9 0;" + FOUR + "x38;", 1);

    public static void main(String[] args) throws Exception {
        new BoundsDoneTest().run();
    }

    // ---- promise 8

    @Says(promise = 8, words = "BEGUN: HOLD.")
    void beginsTellsHold() {
        due(Check.told("p9 1 1;t1 5;"), 1, "begins", 0, 0);
        due(Check.told("p9 1 1;t30 5;"), 30, "begins", 0, 0);
        due(at("p0 1 1;t30 5;", 99), 30, "begins", 0, 0);
        ThoughtBalloon b = HIGH.get();
        due(b, 4, "begins", 0, 1);
        due(b, 1, "now", 2);
        due(b, 4, "now", 5);
    }

    @Says(promise = 8, words = "A THOUGHT is BEGUN by one who is IN, if it is not USED by him")
    void beginsOnceByEach() {
        ThoughtBalloon b = ALL_IN.get();
        int[] lifts = {9, 4, 30, 1};
        for (int p = 0; p < 3; p++) {
            for (int t = 0; t < 4; t++) {
                due(b, lifts[t], "begins", p, t);
                due(b, STATE, "begins", p, t);
            }
        }
        b = Check.told("p0 1 0;t5 0;");
        due(b, STATE, "begins", 0, 0);
        b.enters(0);
        due(b, 5, "begins", 0, 0);
    }

    @Says(promise = 8, words = "he thinks it (who thought till then does no more), it is USED by him.")
    void beginsTakesTheThoughtOver() {
        ThoughtBalloon b = ALL_IN.get();
        b.begins(0, 2);
        b.minutes(1);
        due(b, 25, "now", 5);
        due(b, 30, "begins", 2, 2);
        due(b, 2, "now", 3);
        due(b, 2, "now", 4);
        due(b, 30, "now", 5);
        due(b, 4, "one", 0, 3);
        due(b, 0, "one", 1, 3);
        due(b, 4, "one", 2, 3);
        b.minutes(2);
        due(b, 0, "now", 5);
    }

    @Says(promise = 8, words = "BAD; STATE: he is not IN, it is USED by him, the car is LOST.")
    void beginsRefused() {
        bounds(ALL_IN, BAD, 0, 0, 2, "begins", 0, 0);
        bounds(ALL_IN, BAD, 1, 0, 3, "begins", 0, 0);
        refused(ALL_OUT, STATE, "begins", 0, 0);
        refused(HIGH, STATE, "begins", 1, 0);
        refused(HIGH, STATE, "begins", 0, 0);
        due(HIGH.get(), 4, "begins", 0, 1);
        refused(LOST, STATE, "begins", 0, 1);
        refused(() -> Check.told("p0 1 1;"), BAD, "begins", 0, 0);
        refused(() -> Check.told("t1 0;"), BAD, "begins", 0, 0);
    }

    @Says(promise = 8, words = "Refused, and nothing changes, the first of these: BAD (a number is not as told, or "
            + "there is no such thing), STATE (as told), FULL.")
    void beginsIsBadAheadOfState() {
        refused(ALL_OUT, BAD, "begins", 0, 4);
        refused(ALL_OUT, BAD, "begins", 3, 0);
        refused(LOST, BAD, "begins", 0, -1);
        refused(LOST, BAD, "begins", 2, 0);
    }

    // ---- promise 9

    @Says(promise = 9, words = "n MINUTES (1 .. 9): the CELL.")
    void minutesOneToNine() {
        bounds(ALL_IN, BAD, 0, 1, 9, "minutes", 1);
        ThoughtBalloon b = Check.told("w1 4;w2 4;w3 4;w4 4;w5 4;w6 4;w7 4;w8 4;w9 4;p0 9 1;t1 0;x0;");
        b.begins(0, 0);
        due(b, 1, "minutes", 1);
        due(b, 1, "now", 0);
        due(b, 10, "minutes", 9);
        due(b, 10, "now", 0);
        due(b, 3, "count", 5);
    }

    @Says(promise = 9, words = "A MINUTE goes by (99 at most)")
    void minutes99AtMost() {
        due(at("x7;", 90), 7, "minutes", 9);
        due(at("x7;", 98), 7, "minutes", 1);
        due(at("x7;", 99), 99, "now", 0);
        refused(() -> at("x7;", 99), STATE, "minutes", 1);
        refused(() -> at("x7;", 99), STATE, "minutes", 9);
    }

    @Says(promise = 9, words = "BAD; STATE: it would be later than 99.")
    void minutesRefused() {
        refused(() -> at("x7;", 91), STATE, "minutes", 9);
        due(at("x7;", 91), 7, "minutes", 8);
        refused(() -> at("x7;", 98), STATE, "minutes", 2);
        refused(() -> at("x7;", 99), BAD, "minutes", 0);
        refused(() -> at("x7;", 99), BAD, "minutes", 10);
        refused(() -> at("x7;", 99), BAD, "minutes", Integer.MAX_VALUE);
        ThoughtBalloon b = LOST.get();
        pass(b, 98);
        due(b, 99, "now", 0);
        due(b, STATE, "minutes", 1);
    }

    @Says(promise = 9, words = "the car is 1 HEIGHT higher (9 at most), if HOLD is more than WEIGHTS of all who are IN")
    void minutesHigher() {
        due(flown("p3 9 1;p2 9 1;p9 9 0;t6 0;", 1), 1, "now", 2);
        due(flown("p3 9 1;p2 9 1;p9 9 0;t5 0;", 1), 0, "now", 2);
        due(flown("p9 9 1;p9 9 1;p9 9 1;t28 0;", 1), 1, "now", 2);
        due(flown("p9 9 1;p9 9 1;p9 9 1;t27 0;", 1), 0, "now", 2);
        due(flown("p0 9 1;t1 0;", 8), 8, "now", 2);
        due(flown("p0 9 1;t1 0;", 9), 9, "now", 2);
        ThoughtBalloon b = flown("w9 4;p0 9 1;t1 0;t1 0;", 9);
        b.begins(0, 1);
        due(b, 22, "minutes", 1);
        due(b, 9, "now", 2);
    }

    @Says(promise = 9, words = "1 lower, if it is less (0 at least), as high, if it is alike")
    void minutesLowerOrAsHigh() {
        String text = "p5 9 1;t6 0;t5 0;t4 0;";
        ThoughtBalloon b = flown(text, 3);
        due(b, 3, "now", 2);
        b.begins(0, 1);
        b.minutes(2);
        due(b, 3, "now", 2);
        b.begins(0, 2);
        b.minutes(2);
        due(b, 1, "now", 2);
        b.minutes(1);
        due(b, 0, "now", 2);
        b.minutes(1);
        due(b, 0, "now", 2);
        b.minutes(9);
        due(b, 0, "now", 2);
        due(flown("p0 1 1;t1 0;", 9), 1, "now", 2);
    }

    @Says(promise = 9, words = "it is one more; then the car is 1 HEIGHT higher")
    void minutesHoldOfTheNewMinute() {
        due(flown("p1 9 1;t2 1;", 1), 0, "now", 2);
        due(flown("p1 9 1;t3 1;", 1), 1, "now", 2);
        due(flown("p1 1 1;t30 0;", 1), 1, "now", 2);
        due(flown("p1 1 1;t30 0;", 2), 0, "now", 2);
    }

    @Says(promise = 9, words = "then WIND of that HEIGHT moves it by so many CELLS")
    void minutesWindOfTheNewHeight() {
        ThoughtBalloon b = flown("w1 4;w2 0;w9 6;p1 2 1;t9 0;", 0);
        due(b, 21, "minutes", 1);
        due(b, 18, "minutes", 1);
        due(b, 19, "minutes", 1);
        due(b, 19, "minutes", 1);
        due(b, 0, "now", 2);
    }

    @Says(promise = 9, words = "beyond 0 .. 40 it is LOST, at CELL 0, or 40.")
    void minutesLostBeyond() {
        String[] texts = {"w1 6;x37;", "w1 6;x38;", "w1 6;x40;", "w1 0;x3;", "w1 0;x2;", "w1 0;x0;", "w1 3;x40;",
            "w1 4;x39;", "w1 4;x40;", "w1 2;x1;", "w1 2;x0;"};
        int[] cells = {40, 40, 40, 0, 0, 0, 40, 40, 40, 0, 0};
        int[] lost = {0, 1, 1, 0, 1, 1, 0, 0, 1, 0, 1};
        for (int i = 0; i < texts.length; i++) {
            ThoughtBalloon b = flown("p0 9 1;t1 0;" + texts[i], 0);
            due(b, cells[i], "minutes", 1);
            due(b, lost[i], "now", 7);
        }
    }

    @Says(promise = 9, words = "40, HEIGHTS 0 (the ground) .. 9.")
    void minutesCellsAndHeights() {
        ThoughtBalloon b = flown("w1 4;w2 4;w3 4;w4 4;w5 4;w6 4;w7 4;w8 4;w9 4;p0 9 1;t1 0;x30;", 9);
        due(b, 39, "now", 1);
        due(b, 9, "now", 2);
        due(b, 40, "minutes", 1);
        due(b, 0, "now", 7);
        due(b, 40, "minutes", 1);
        due(b, 1, "now", 7);
        due(b, 9, "now", 2);
    }

    @Says(promise = 9, words = "(a LOST car stays where it is, does not rise or fall)")
    void minutesOfALostCar() {
        ThoughtBalloon b = flown("w1 6;w2 0;p0 9 1;t9 0;x40;", 1);
        due(b, 40, "minutes", 9);
        due(b, 10, "now", 0);
        due(b, 1, "now", 2);
        due(b, 1, "now", 7);
        b = flown("w1 0;w2 6;p5 1 1;t9 0;x0;", 1);
        due(b, 0, "minutes", 9);
        due(b, 1, "now", 2);
        due(b, 0, "now", 5);
    }

    // ---- promise 10

    @Says(promise = 10, words = "IN: how many are. BAD; STATE: he is, it is not on the ground, it is LOST.")
    void entersRefused() {
        bounds(ALL_OUT, BAD, 0, 0, 2, "enters", 0);
        refused(ALL_IN, STATE, "enters", 2);
        refused(HIGH, STATE, "enters", 1);
        refused(LOST, STATE, "enters", 1);
        refused(HIGH, BAD, "enters", 2);
        refused(LOST, BAD, "enters", -1);
        ThoughtBalloon b = ALL_OUT.get();
        due(b, 1, "enters", 2);
        due(b, STATE, "enters", 2);
        due(b, 2, "enters", 0);
        due(b, 3, "enters", 1);
        due(b, 3, "now", 6);
        due(at("p9 1 0;", 99), 1, "enters", 0);
    }

    @Says(promise = 10, words = "IN, OUT: one gets in, out, on the ground, if the car is not LOST")
    void entersOnTheGround() {
        ThoughtBalloon b = flown("p1 1 1;p1 1 0;t9 0;", 1);
        due(b, 1, "now", 2);
        due(b, STATE, "enters", 1);
        b.minutes(1);
        due(b, 0, "now", 2);
        due(b, 2, "enters", 1);
    }

    // ---- promise 11

    @Says(promise = 11, words = "OUT: how many are IN. BAD; STATE: he is not IN, it is not on the ground, it is LOST.")
    void leavesRefused() {
        bounds(ALL_IN, BAD, 0, 0, 2, "leaves", 0);
        refused(ALL_OUT, STATE, "leaves", 2);
        refused(HIGH, STATE, "leaves", 0);
        refused(LOST, STATE, "leaves", 0);
        refused(HIGH, BAD, "leaves", 2);
        refused(LOST, BAD, "leaves", -1);
        ThoughtBalloon b = ALL_IN.get();
        due(b, 2, "leaves", 0);
        due(b, STATE, "leaves", 0);
        due(b, 1, "leaves", 2);
        due(b, 0, "leaves", 1);
        due(b, 0, "now", 6);
        due(at("p9 1 1;", 99), 0, "leaves", 0);
    }

    @Says(promise = 11, words = "(who thinks and gets out thinks no more)")
    void leavesThinkingNoMore() {
        ThoughtBalloon b = ALL_IN.get();
        b.begins(1, 3);
        b.leaves(0);
        due(b, 1, "now", 3);
        due(b, 3, "now", 4);
        due(b, 1, "now", 5);
        b.leaves(1);
        due(b, NONE, "now", 3);
        due(b, NONE, "now", 4);
        due(b, 0, "now", 5);
        due(b, 8, "one", 1, 3);
        b.enters(1);
        due(b, NONE, "now", 3);
        due(b, STATE, "begins", 1, 3);
    }

    @Says(promise = 11, words = "IN, OUT: one gets in, out, on the ground, if the car is not LOST")
    void leavesOnTheGround() {
        ThoughtBalloon b = flown("p1 1 1;t9 0;", 1);
        due(b, STATE, "leaves", 0);
        b.minutes(1);
        due(b, 0, "leaves", 0);
    }

    // ---- promise 12

    @Says(promise = 12, words = "UNDONE: how many more may be. STATE: none.")
    void undoRefused() {
        refused(ThoughtBalloon::new, STATE, "undo");
        refused(() -> Check.told("p1 1 1;t1 1;"), STATE, "undo");
        ThoughtBalloon b = ALL_OUT.get();
        due(b, 0, "undo");
        due(b, STATE, "undo");
        b.enters(0);
        b.leaves(0);
        due(b, 1, "undo");
        due(b, 0, "undo");
        due(b, STATE, "undo");
        ThoughtBalloon asked = ALL_IN.get();
        asked.begins(3, 0);
        asked.enters(0);
        asked.minutes(0);
        asked.keep(0);
        asked.best(4, 0, -1);
        asked.after(30, 0);
        asked.which(0);
        due(asked, 0, "undo");
    }

    @Says(promise = 12, words = "UNDONE: the latest BEGUN, MINUTES, IN, OUT (10 are known, older ones are lost)")
    void undoTen() {
        for (int deeds : new int[] {9, 10, 11, 25}) {
            ThoughtBalloon b = new ThoughtBalloon();
            for (int i = 0; i < deeds; i++) {
                b.minutes(i % 2 + 1);
            }
            int known = Math.min(10, deeds);
            due(b, known, "count", 5);
            for (int left = known - 1; left >= 0; left--) {
                due(b, left, "undo");
            }
            due(b, STATE, "undo");
            int lost = deeds - known;
            due(b, lost + lost / 2, "now", 0);
        }
    }

    @Says(promise = 12, words = "all is as ahead of it.")
    void undoEach() {
        undone(ALL_IN, b -> b.begins(0, 0));
        undone(ALL_IN, b -> b.minutes(1));
        undone(ALL_IN, b -> b.minutes(9));
        undone(ALL_IN, b -> b.leaves(2));
        undone(ALL_OUT, b -> b.enters(2));
        undone(HIGH, b -> b.minutes(9));
        undone(HIGH, b -> b.begins(0, 1));
        undone(LOST, b -> b.minutes(9));
        undone(() -> flown("p5 9 1;t9 3;", 0), b -> b.leaves(0));
        undone(() -> flown("p5 9 1;t9 3;t9 3;", 2), b -> b.begins(0, 1));
        ThoughtBalloon b = LOST.get();
        due(b, 1, "now", 7);
        b.undo();
        due(b, 0, "now", 7);
        due(b, 38, "now", 1);
        due(b, 0, "now", 2);
    }

    @Says(promise = 12, words = "UNDONE: how many more may be.")
    void undoLeavesTheRest() {
        ThoughtBalloon b = ALL_IN.get();
        b.saw(1, 2, 2);
        b.hears(2, 2);
        b.type(32);
        b.mark(5, 0);
        b.undo();
        due(b, 2, "count", 3);
        due(b, 2, "count", 4);
        due(b, 1, "count", 6);
        due(b, 100001, "trace");
        due(b, 2, "back", 1);
    }

    private void undone(Supplier<ThoughtBalloon> made, Consumer<ThoughtBalloon> deed) {
        ThoughtBalloon b = made.get();
        int before = b.count(5);
        deed.accept(b);
        due(b, before + 1, "count", 5);
        due(b, before, "undo");
        alike("all is as ahead of it", b, made.get());
    }

    // ---- promise 13

    @Says(promise = 13, words = "0 the minute, 1 CELL, 2 HEIGHT, 3 who thinks (NONE), 4 what (NONE), 5 HOLD, 6 WEIGHTS "
            + "of all who are IN, 7 whether it is LOST (1, 0), 8 COVER (bits; NONE). BAD.")
    void nowBounds() {
        bounds(ALL_IN, BAD, 0, 0, 8, "now", 0);
        bounds(ThoughtBalloon::new, BAD, 0, 0, 8, "now", 0);
        int[] high = {1, 40, 1, 0, 0, 8, 0, 0, 1};
        int[] lost = {1, 40, 1, 0, 0, 8, 0, 1, 1};
        for (int what = 0; what <= 8; what++) {
            due(HIGH.get(), high[what], "now", what);
            due(LOST.get(), lost[what], "now", what);
        }
    }

    @Says(promise = 13, words = "3 who thinks (NONE), 4 what (NONE)")
    void nowWhoThinks() {
        ThoughtBalloon b = ALL_IN.get();
        due(b, NONE, "now", 3);
        due(b, NONE, "now", 4);
        b.begins(2, 3);
        due(b, 2, "now", 3);
        due(b, 3, "now", 4);
        b.begins(0, 0);
        due(b, 0, "now", 3);
        due(b, 0, "now", 4);
    }

    @Says(promise = 13, words = "HOLD, m minutes behind that: LIFT less m times FADE, 0 at least")
    void nowHoldFades() {
        int[] due = {10, 5, 0, 0, 0};
        for (int m = 0; m < due.length; m++) {
            due(flown("p9 9 1;t10 5;", m), due[m], "now", 5);
        }
        due(flown("p9 9 1;t1 1;", 1), 0, "now", 5);
        due(flown("p9 9 1;t2 1;", 1), 1, "now", 5);
        due(flown("p9 9 1;t1 0;", 9), 1, "now", 5);
        due(flown("p9 9 1;t30 5;", 5), 5, "now", 5);
        due(flown("p9 9 1;t30 5;", 6), 0, "now", 5);
        due(flown("p9 9 1;t30 5;", 7), 0, "now", 5);
    }

    @Says(promise = 13, words = "as long as m is BREATH of who thinks at most; 0 then")
    void nowHoldAndBreath() {
        for (int breath = 1; breath <= 9; breath++) {
            String text = "p0 " + breath + " 1;p0 9 1;t30 1;";
            due(flown(text, breath), 30 - breath, "now", 5);
            due(flown(text, breath + 1), 0, "now", 5);
        }
        ThoughtBalloon b = flown("p0 1 1;p0 2 1;t7 0;", 1);
        b.begins(1, 0);
        b.minutes(2);
        due(b, 7, "now", 5);
        b.minutes(1);
        due(b, 0, "now", 5);
    }

    @Says(promise = 13, words = "0 then, and if nobody thinks.")
    void nowHoldOfNobody() {
        due(ALL_IN.get(), 0, "now", 5);
        due(new ThoughtBalloon(), 0, "now", 5);
        ThoughtBalloon b = flown("p9 9 1;t1 0;", 0);
        due(b, 1, "now", 5);
        b.leaves(0);
        due(b, 0, "now", 5);
    }

    @Says(promise = 13, words = "6 WEIGHTS of all who are IN")
    void nowWeights() {
        due(Check.told("p9 1 1;p9 1 1;p9 1 1;"), 27, "now", 6);
        due(Check.told("p9 1 0;p1 1 1;p9 1 0;"), 1, "now", 6);
        due(Check.told("p9 1 0;p9 1 0;p9 1 0;"), 0, "now", 6);
        due(Check.told("p0 1 1;p0 1 1;p0 1 1;"), 0, "now", 6);
    }

    @Says(promise = 13, words = "COVER: the fewest THOUGHTS (bits, of several sets the least) such that each of PEOPLE "
            + "is LIFTED by one; NONE.")
    void nowCover() {
        due(new ThoughtBalloon(), 0, "now", 8);
        due(Check.told("t1 0;t30 0;"), 0, "now", 8);
        due(Check.told("p0 1 1;"), NONE, "now", 8);
        due(Check.told("p0 1 1;t1 0;"), 1, "now", 8);
        due(Check.told("p1 1 1;t1 0;"), NONE, "now", 8);
        due(Check.told("p9 1 1;t9 0;t9 0;t9 0;t10 0;"), 8, "now", 8);
        due(Check.told("p9 1 1;t9 0;t9 0;t9 0;t9 0;"), NONE, "now", 8);
        due(Check.told("p9 1 1;p0 1 0;p5 1 0;t1 0;t6 0;t10 0;t11 0;"), 4, "now", 8);
        due(Check.told("p9 1 0;p0 1 1;t1 0;t9 0;"), NONE, "now", 8);
        due(Check.told("p0 1 0;p0 1 1;t1 0;t1 0;t1 0;t1 0;"), 1, "now", 8);
    }
}
