import java.util.function.Supplier;

/** Promises 1 to 7, sentence by sentence: a new object, type, clear, sheds, wind, one, thought. */
public final class BoundsShedsTest extends Bounds {
    /** Three people, four thoughts, something done, seen, heard, kept, and half an item in the text. */
    private static final Supplier<ThoughtBalloon> BUSY = () -> {
        ThoughtBalloon b = Check.told("w1 6;w2 1;p2 9 1;p1 3 0;p0 1 1;t9 1;t4 0;t30 5;t1 0;x5;");
        b.begins(0, 0);
        b.keep(0);
        b.minutes(2);
        b.saw(0, 1, 3);
        b.hears(1, 1);
        b.keep(1);
        b.minutes(1);
        Check.type(b, "w1 ");
        return b;
    };

    public static void main(String[] args) throws Exception {
        new BoundsShedsTest().run();
    }

    // ---- promise 1

    @Says(promise = 1, words = "As told; nobody, no THOUGHTS.")
    void newHasNobody() {
        ThoughtBalloon b = new ThoughtBalloon();
        due(b, 0, "count", 0);
        due(b, 0, "count", 1);
        due(b, BAD, "one", 0, 0);
        due(b, BAD, "thought", 0, 0);
        due(b, BAD, "begins", 0, 0);
        due(b, BAD, "enters", 0);
        due(b, BAD, "leaves", 0);
        due(b, 0, "own", -1);
        due(b, BAD, "own", 0);
        due(b, BAD, "saw", 0, 1, 0);
        due(b, BAD, "which", 0);
        due(b, BAD, "look", 0);
        due(b, NO, "mark", 0, 0);
    }

    @Says(promise = 1, words = "told as WIND and 3: 0 .. 6; 0 at first")
    void newHasNoWind() {
        for (int h = 0; h <= 9; h++) {
            due(new ThoughtBalloon(), 0, "wind", h);
        }
    }

    @Says(promise = 1, words = "START (0 .. 40; 20 at first).")
    void newStartsAt20() {
        due(new ThoughtBalloon(), 20, "count", 2);
        due(new ThoughtBalloon(), 20, "now", 1);
    }

    @Says(promise = 1, words = "The car is at START on the ground, the minute is 0, nobody thinks, no THOUGHT is USED "
            + "by anybody.")
    void newIsOnTheGround() {
        int[] now = {0, 20, 0, NONE, NONE, 0, 0, 0};
        for (int what = 0; what < now.length; what++) {
            due(new ThoughtBalloon(), now[what], "now", what);
        }
        for (int what = 3; what <= 6; what++) {
            due(new ThoughtBalloon(), 0, "count", what);
        }
        due(new ThoughtBalloon(), 0, "trace");
    }

    // ---- promise 2

    @Says(promise = 2, words = "A byte (0 .. 255) comes to THE TEXT: how many it has.")
    void typeTakesAByte() {
        bounds(BUSY, BAD, 0, 0, 255, "type", 32);
        ThoughtBalloon b = new ThoughtBalloon();
        due(b, 1, "type", 0);
        due(b, 2, "type", 255);
        due(b, BAD, "type", 256);
        due(b, 2, "count", 6);
    }

    @Says(promise = 2, words = "They are a text (120 bytes at most)")
    void typeTakes120() {
        ThoughtBalloon b = typed(" ".repeat(118));
        due(b, 119, "type", 32);
        due(b, 120, "type", 59);
        due(b, FULL, "type", 32);
        due(b, 120, "count", 6);
        due(b, -10 - 119, "sheds");
        due(b, FULL, "type", 32);
        b.clear();
        due(b, 1, "type", 32);
        refused(() -> typed(" ".repeat(120)), FULL, "type", 'w');
    }

    @Says(promise = 2, words = "BAD; FULL.")
    void typeIsBadAheadOfFull() {
        refused(() -> typed(" ".repeat(120)), BAD, "type", -1);
        refused(() -> typed(" ".repeat(120)), BAD, "type", 256);
        refused(() -> typed(" ".repeat(120)), FULL, "type", 0);
        refused(() -> typed(" ".repeat(120)), FULL, "type", 255);
    }

    // ---- promise 3

    @Says(promise = 3, words = "THE TEXT is empty: how many bytes it had.")
    void clearTellsHowMany() {
        for (int length : new int[] {0, 1, 119, 120}) {
            ThoughtBalloon b = typed(";".repeat(length));
            due(b, length, "clear");
            due(b, 0, "count", 6);
            due(b, 0, "clear");
            due(b, 0, "sheds");
        }
        ThoughtBalloon cleared = BUSY.get();
        cleared.clear();
        Check.type(cleared, "w1 ");
        alike("nothing else is cleared", cleared, BUSY.get());
    }

    // ---- promise 4

    @Says(promise = 4, words = "THE TEXT tells all, and is empty then: how many ITEMS.")
    void shedsCountsItems() {
        due(typed(""), 0, "sheds");
        due(typed(" "), 0, "sheds");
        due(typed(" ".repeat(120)), 0, "sheds");
        due(typed("x0;"), 1, "sheds");
        due(typed("w1 0;".repeat(24)), 24, "sheds");
        due(typed("x0;" + "w1 0;".repeat(23) + "  "), 24, "sheds");
        ThoughtBalloon b = typed("w1 0;".repeat(24));
        b.sheds();
        due(b, 0, "count", 6);
        due(b, 1, "type", 'x');
        b = Check.told("w1 0;p1 1 1;t1 1;x7;");
        due(b, 0, "sheds");
        alike("an empty text tells that nothing is", b, new ThoughtBalloon());
    }

    @Says(promise = 4, words = "-10 less FAULT: nothing changes.")
    void shedsAtFault() {
        due(typed(";"), -10, "sheds");
        due(typed(" ".repeat(119) + ";"), -129, "sheds");
        due(typed(" ".repeat(119) + "x"), -130, "sheds");
        refused(BUSY, -10 - 3, "sheds");
        refused(() -> typed("p1 1 1;t1 1;x7;w1 6;w"), -10 - 21, "sheds");
        ThoughtBalloon b = typed("x7;w1");
        due(b, -10 - 5, "sheds");
        due(b, 5, "count", 6);
        Check.type(b, " 6;");
        due(b, 2, "sheds");
        due(b, 3, "wind", 1);
    }

    @Says(promise = 4, words = "blanks (32) between TOKENS")
    void shedsBlanks() {
        due(typed(" w 1 6 ; x 7 ; "), 2, "sheds");
        due(typed("   w   1   6   ;   x   7   ;   "), 2, "sheds");
        due(typed("w1 6;x7;"), 2, "sheds");
        for (int other : new int[] {0, 9, 10, 13, 31, 33, 160}) {
            fault("w1" + (char) other + "6;", 2);
            fault("x7;" + (char) other, 3);
        }
    }

    @Says(promise = 4, words = "ITEMS, each letters and what is told, ended by ;")
    void shedsItemsEnd() {
        due(typed("x7;"), 1, "sheds");
        fault("x7", 2);
        fault("x7w1 1;", 2);
        fault("x7 8;", 3);
        fault("x7;;", 3);
        fault("x;", 1);
        fault("7;", 0);
        fault("w1;", 2);
        fault("w1 1 1;", 5);
        fault("p1 1;", 4);
        fault("p1 1 1 1;", 7);
        fault("t1;", 2);
        fault("t1 1 1;", 5);
    }

    @Says(promise = 4, words = "w H N (WIND of a HEIGHT; told again: the later)")
    void shedsWindAgain() {
        ThoughtBalloon b = Check.told("w1 6;w9 0;w1 0;w9 6;w5 6;");
        due(b, -3, "wind", 1);
        due(b, 3, "wind", 9);
        due(b, 3, "wind", 5);
        due(b, 0, "wind", 4);
    }

    @Says(promise = 4, words = "p W B I (the next of PEOPLE)")
    void shedsPeopleInTheirOrder() {
        ThoughtBalloon b = Check.told("p9 1 0;p0 9 1;p4 5 0;");
        int[][] told = {{9, 1, 0}, {0, 9, 1}, {4, 5, 0}};
        for (int p = 0; p < 3; p++) {
            for (int what = 0; what < 3; what++) {
                due(b, told[p][what], "one", p, what);
            }
        }
    }

    @Says(promise = 4, words = "t L F (the next THOUGHT)")
    void shedsThoughtsInTheirOrder() {
        ThoughtBalloon b = Check.told("t1 5;t30 0;t2 4;t29 1;");
        int[][] told = {{1, 5}, {30, 0}, {2, 4}, {29, 1}};
        for (int t = 0; t < 4; t++) {
            due(b, told[t][0], "thought", t, 0);
            due(b, told[t][1], "thought", t, 1);
        }
    }

    @Says(promise = 4, words = "x N (START; once at most).")
    void shedsStartOnce() {
        due(typed("w1 1;"), 1, "sheds");
        due(typed("x7;"), 1, "sheds");
        fault("x7;x7;", 3);
        ThoughtBalloon b = Check.told("x7;");
        due(b, 7, "count", 2);
        Check.type(b, "x8;");
        due(b, 1, "sheds");
        due(b, 8, "count", 2);
    }

    @Says(promise = 4, words = "WIND of each HEIGHT 1 .. 9 (-3 .. 3; told as WIND and 3: 0 .. 6; 0 at first)")
    void shedsWinds() {
        number("w", " 3;", 1, 9);
        number("w3 ", ";", 0, 6);
        due(Check.told("w3 0;"), -3, "wind", 3);
        due(Check.told("w3 6;"), 3, "wind", 3);
        due(Check.told("w3 6;"), 0, "wind", 2);
    }

    @Says(promise = 4, words = "WEIGHT (0 .. 9)")
    void shedsWeights() {
        number("p", " 5 1;", 0, 9);
        due(Check.told("p0 5 1;"), 0, "one", 0, 0);
        due(Check.told("p9 5 1;"), 9, "one", 0, 0);
    }

    @Says(promise = 4, words = "BREATH (1 .. 9 minutes)")
    void shedsBreaths() {
        number("p5 ", " 1;", 1, 9);
        due(Check.told("p5 1 1;"), 1, "one", 0, 1);
        due(Check.told("p5 9 1;"), 9, "one", 0, 1);
    }

    @Says(promise = 4, words = "IN the car at first (1) or not (0).")
    void shedsIn() {
        number("p5 5 ", ";", 0, 1);
        due(Check.told("p5 5 0;"), 0, "one", 0, 2);
        due(Check.told("p5 5 1;"), 1, "one", 0, 2);
    }

    @Says(promise = 4, words = "LIFT (1 .. 30)")
    void shedsLifts() {
        number("t", " 1;", 1, 30);
        due(Check.told("t1 1;"), 1, "thought", 0, 0);
        due(Check.told("t30 1;"), 30, "thought", 0, 0);
    }

    @Says(promise = 4, words = "FADE (0 .. 5)")
    void shedsFades() {
        number("t5 ", ";", 0, 5);
        due(Check.told("t5 0;"), 0, "thought", 0, 1);
        due(Check.told("t5 5;"), 5, "thought", 0, 1);
    }

    @Says(promise = 4, words = "START (0 .. 40; 20 at first).")
    void shedsStart() {
        number("x", ";", 0, 40);
        for (int start : new int[] {0, 40}) {
            due(Check.told("x" + start + ";"), start, "count", 2);
            due(Check.told("x" + start + ";"), start, "now", 1);
        }
        due(Check.told("w1 1;"), 20, "count", 2);
    }

    @Says(promise = 4, words = "TOKENS are letters a .. z side by side, NUMBERS and ; .")
    void shedsTokens() {
        fault("wa1 1;", 0);
        fault("wz1 1;", 0);
        fault("w`1 1;", 1);
        fault("w{1 1;", 1);
        due(typed("w9 0;"), 1, "sheds");
        fault("w/ 1;", 1);
        fault("w: 1;", 1);
        fault("x7<", 2);
        fault("X7;", 0);
    }

    @Says(promise = 4, words = "FAULT: the place of the first byte of the first TOKEN that can't stand there")
    void shedsFirstFault() {
        fault("qqq", 0);
        fault("x7; qqq", 4);
        fault("x7 12;", 3);
        fault("x41;#", 1);
        fault("x7;w0 7;", 4);
        fault("x 41 x 100;", 2);
        fault("p9 9 1;#;x100;", 7);
    }

    @Says(promise = 4, words = "letters that begin no ITEM")
    void shedsUnknownLetters() {
        for (char c = 'a'; c <= 'z'; c++) {
            boolean begins = "wptx".indexOf(c) >= 0;
            fault("x7; " + c, begins && c != 'x' ? 5 : 4);
            fault("" + c + c, 0);
        }
        fault("wp", 0);
        fault("xw7;", 0);
        fault("x w;", 2);
        fault("x ww;", 2);
    }

    @Says(promise = 4, words = "a fourth of PEOPLE")
    void shedsThreePeople() {
        due(typed("p1 1 1;".repeat(3)), 3, "sheds");
        fault("p1 1 1;".repeat(4), 21);
        fault("p1 1 1;".repeat(3) + " p", 22);
        fault("p1 1 1;t1 1;p1 1 1;x1;p1 1 1;w1 1;p1 1 1;", 34);
        due(Check.told("p1 1 1;".repeat(3)), 3, "count", 0);
    }

    @Says(promise = 4, words = "PEOPLE 0 .. (3 at most)")
    void shedsPeopleAreNotAdded() {
        ThoughtBalloon b = Check.told("p1 1 1;".repeat(3));
        Check.type(b, "p2 2 0;");
        due(b, 1, "sheds");
        due(b, 1, "count", 0);
        Check.type(b, "p1 1 1;".repeat(3));
        due(b, 3, "sheds");
        due(b, 3, "count", 0);
    }

    @Says(promise = 4, words = "a fifth THOUGHT")
    void shedsFourThoughts() {
        due(typed("t1 1;".repeat(4)), 4, "sheds");
        fault("t1 1;".repeat(5), 20);
        fault("t1 1;".repeat(4) + " t", 21);
        due(Check.told("t1 1;".repeat(4)), 4, "count", 1);
    }

    @Says(promise = 4, words = "THOUGHTS 0 .. (4 at most)")
    void shedsThoughtsAreNotAdded() {
        ThoughtBalloon b = Check.told("t1 1;".repeat(4));
        Check.type(b, "t2 2;");
        due(b, 1, "sheds");
        due(b, 1, "count", 1);
        Check.type(b, "t1 1;".repeat(4));
        due(b, 4, "sheds");
    }

    @Says(promise = 4, words = "x again")
    void shedsStartAgain() {
        fault("x7; x", 4);
        fault("x0;w1 1;x0;", 8);
        fault("x20;x20;", 4);
    }

    @Says(promise = 4, words = "a NUMBER beyond what it may be")
    void shedsNumbersBeyond() {
        fault("w10 9;", 1);
        fault("w9 7;", 3);
        fault("p10 0 2;", 1);
        fault("p9 10 2;", 3);
        fault("p9 9 2;", 5);
        fault("t31 6;", 1);
        fault("t30 6;", 4);
        fault("x41;", 1);
        fault("x99", 1);
    }

    @Says(promise = 4, words = "of a byte that begins none")
    void shedsBytesThatBeginNone() {
        for (int c = 0; c < 256; c++) {
            boolean begins = c == ' ' || c == ';' || c >= '0' && c <= '9' || c >= 'a' && c <= 'z';
            if (!begins) {
                fault("" + (char) c, 0);
                fault("x7" + (char) c + ";", 2);
                fault("x7;w" + (char) c + "1 1;", 4);
            }
        }
    }

    @Says(promise = 4, words = "a NUMBER above 99 or with a 0 ahead of others, that TOKEN's")
    void shedsNumbersThatAreNone() {
        fault("x99;", 1);
        fault("x100;", 1);
        fault("x 100;", 2);
        fault("x4294967296;", 1);
        fault("x18446744073709551616;", 1);
        fault("x" + "1".repeat(118) + ";", 1);
        due(typed("x0;"), 1, "sheds");
        due(typed("x10;"), 1, "sheds");
        fault("x00;", 1);
        fault("x01;", 1);
        fault("x 040;", 2);
        fault("x" + "0".repeat(118) + ";", 1);
        fault("w1 06;", 3);
        fault("x7 100;", 3);
        fault("07", 0);
    }

    @Says(promise = 4, words = "the text's length, if it ends too early.")
    void shedsEndsTooEarly() {
        for (String item : new String[] {"w9 6;", "p9 9 1;", "t30 5;", "x40;", " w 1 1 ;"}) {
            for (int length = item.stripLeading().length() < item.length() ? 2 : 1; length < item.length(); length++) {
                fault(item.substring(0, length), length);
                fault("w1 1;" + item.substring(0, length), 5 + length);
            }
            due(typed(item), 1, "sheds");
        }
        fault("x7   ", 5);
        fault("w1 1;".repeat(23) + "w1 1 ", 120);
        fault("w1 1;".repeat(23) + "  x 4", 120);
        fault("w1 1;".repeat(23) + "    w", 120);
        fault(" ".repeat(118) + "xx", 118);
    }

    @Says(promise = 4, words = "the text's length, if it ends too early.")
    void shedsEndsWhereALongerTextWas() {
        for (String shorter : new String[] {"x4", "x", "x "}) {
            ThoughtBalloon b = typed("x40;;wwww000;;;");
            b.clear();
            Check.type(b, shorter);
            due(b, -10 - shorter.length(), "sheds");
        }
        ThoughtBalloon b = typed("x40;");
        b.sheds();
        Check.type(b, "x4");
        due(b, -10 - 2, "sheds");
        b.type(';');
        due(b, 1, "sheds");
        due(b, 4, "count", 2);
    }

    @Says(promise = 4, words = "(Read anew: as told, nothing SEEN, HEARD or to be UNDONE, IMAGES are gone.)")
    void shedsReadAnew() {
        String text = "w2 0;p3 4 1;t7 2;x9;";
        ThoughtBalloon b = BUSY.get();
        b.clear();
        Check.type(b, text);
        due(b, 4, "sheds");
        alike("as one that was told just this", b, Check.told(text));
        b = Check.told("w1 6;p0 9 1;p0 9 1;p0 9 1;t9 0;x40;");
        b.begins(0, 0);
        b.minutes(1);
        due(b, 1, "now", 7);
        Check.type(b, "p1 1 0;p2 2 0;t3 3;");
        due(b, 3, "sheds");
        alike("nobody is in, nothing is lost", b, Check.told("p1 1 0;p2 2 0;t3 3;"));
        b = Check.told("p1 1 0;");
        Check.type(b, "p1 1 1;p1 1 2;");
        due(b, -10 - 12, "sheds");
        b.clear();
        Check.type(b, "p1 1 0;p1 1 0;");
        due(b, 2, "sheds");
        alike("what was told at fault is gone", b, Check.told("p1 1 0;p1 1 0;"));
        b = BUSY.get();
        b.clear();
        b.sheds();
        due(b, 0, "count", 3);
        due(b, 0, "count", 4);
        due(b, STATE, "undo");
        due(b, STATE, "back", 0);
        due(b, STATE, "back", 1);
    }

    // ---- promise 5

    @Says(promise = 5, words = "WIND of a HEIGHT (0 .. 9). NO: BAD.")
    void windOfAHeight() {
        bounds(BUSY, NO, 0, 0, 9, "wind", 1);
        due(Check.told("w9 0;"), -3, "wind", 9);
        due(Check.told("w1 2;"), -1, "wind", 1);
    }

    @Says(promise = 5, words = "`NO = -1000000`: What none is, where a number may be below 0.")
    void windBelowZeroIsNotRefused() {
        due(Check.told("w1 2;"), -1, "wind", 1);
        due(Check.told("w1 1;"), -2, "wind", 1);
        due(Check.told("w1 0;"), -3, "wind", 1);
        due(Check.told("w1 0;"), -1000000, "wind", 10);
    }

    @Says(promise = 5, words = "none on the ground")
    void windOnTheGround() {
        ThoughtBalloon b = Check.told("w1 6;w2 6;");
        due(b, 0, "wind", 0);
        due(b, 3, "wind", 1);
        due(at("w1 6;w2 6;p0 9 1;", 9), 20, "now", 1);
    }

    // ---- promise 6

    @Says(promise = 6, words = "Of one: 0 WEIGHT, 1 BREATH, 2 whether he is IN (1, 0), 3 THOUGHTS USED by him (bits), "
            + "4 LIFTS (bits). BAD.")
    void oneBounds() {
        for (int what = 0; what <= 4; what++) {
            bounds(BUSY, BAD, 0, 0, 2, "one", 0, what);
            bounds(() -> Check.told("p1 1 1;"), BAD, 0, 0, 0, "one", 0, what);
        }
        for (int p = 0; p <= 2; p++) {
            bounds(BUSY, BAD, 1, 0, 4, "one", p, 0);
        }
    }

    @Says(promise = 6, words = "3 THOUGHTS USED by him (bits)")
    void oneUsed() {
        ThoughtBalloon b = Check.told("p0 9 1;p0 9 1;p0 9 1;t1 0;t1 0;t1 0;t1 0;");
        int bits = 0;
        for (int t = 3; t >= 0; t--) {
            due(b, bits, "one", 2, 3);
            b.begins(2, t);
            bits |= 1 << t;
        }
        due(b, 15, "one", 2, 3);
        due(b, 0, "one", 1, 3);
        due(b, 0, "one", 0, 3);
        b.begins(0, 3);
        due(b, 8, "one", 0, 3);
        due(b, 0, "one", 1, 3);
    }

    @Says(promise = 6, words = "LIFTS of a PERSON: THOUGHTS (bits) of which LIFT is more than his WEIGHT.")
    void oneLifts() {
        ThoughtBalloon b = Check.told("p0 1 0;p9 1 0;p1 1 0;t1 0;t9 0;t10 0;t2 5;");
        due(b, 15, "one", 0, 4);
        due(b, 4, "one", 1, 4);
        due(b, 14, "one", 2, 4);
        due(Check.told("p0 1 0;"), 0, "one", 0, 4);
    }

    // ---- promise 7

    @Says(promise = 7, words = "Of a THOUGHT: 0 LIFT, 1 FADE. BAD.")
    void thoughtBounds() {
        for (int what = 0; what <= 1; what++) {
            bounds(BUSY, BAD, 0, 0, 3, "thought", 0, what);
            bounds(() -> Check.told("t1 1;"), BAD, 0, 0, 0, "thought", 0, what);
        }
        for (int t = 0; t <= 3; t++) {
            bounds(BUSY, BAD, 1, 0, 1, "thought", t, 0);
        }
    }

    private static ThoughtBalloon typed(String text) {
        ThoughtBalloon b = new ThoughtBalloon();
        Check.type(b, text);
        return b;
    }

    private void fault(String text, int place) {
        holds("'" + text + "' is at fault in " + place, Check.read(text) == -10 - place);
    }

    /** The number between head and tail is told at both ends of its range, and is at fault beyond. */
    private void number(String head, String tail, int low, int high) {
        due(typed(head + low + tail), 1, "sheds");
        due(typed(head + high + tail), 1, "sheds");
        fault(head + (high + 1) + tail, head.length());
        fault(head + "99" + tail, head.length());
        fault(head + "100" + tail, head.length());
        fault(head + (low == 0 ? "00" : String.valueOf(low - 1)) + tail, head.length());
        fault(head + "-1" + tail, head.length());
    }
}
