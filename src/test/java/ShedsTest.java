/** Promises 1 to 7: a new object, type, clear, sheds, wind, one, thought. */
public final class ShedsTest {
    private static final Check check = new Check();

    public static void main(String[] args) {
        newObject();
        typeAndClear();
        shedsTell();
        shedsAnew();
        faultsOfTokens();
        faultsOfNumbers();
        faultsOfCounts();
        faultsChangeNothing();
        winds();
        people();
        thoughts();
        check.end();
    }

    private static void newObject() {
        ThoughtBalloon b = new ThoughtBalloon();
        int[] counts = {0, 0, 20, 0, 0, 0, 0};
        for (int what = 0; what < counts.length; what++) {
            check.due("new: count(" + what + ")", b.count(what), counts[what]);
        }
        int[] now = {0, 20, 0, ThoughtBalloon.NONE, ThoughtBalloon.NONE, 0, 0, 0, 0};
        for (int what = 0; what < now.length; what++) {
            check.due("new: now(" + what + ")", b.now(what), now[what]);
        }
        for (int h = 0; h <= 9; h++) {
            check.due("new: wind(" + h + ")", b.wind(h), 0);
        }
        check.due("new: one(0, 0)", b.one(0, 0), -1);
        check.due("new: thought(0, 0)", b.thought(0, 0), -1);
        check.due("new: undo()", b.undo(), -2);
        check.due("new: back(0)", b.back(0), -2);
        check.due("new: back(1)", b.back(1), -2);
        check.due("new: trace()", b.trace(), 0);
    }

    private static void typeAndClear() {
        ThoughtBalloon b = new ThoughtBalloon();
        check.due("type(-1)", b.type(-1), -1);
        check.due("type(256)", b.type(256), -1);
        check.due("type(MIN)", b.type(Integer.MIN_VALUE), -1);
        check.due("clear() of nothing", b.clear(), 0);
        check.due("type(0)", b.type(0), 1);
        check.due("type(255)", b.type(255), 2);
        check.due("count(6)", b.count(6), 2);
        check.due("clear()", b.clear(), 2);
        check.due("count(6) when cleared", b.count(6), 0);
        for (int i = 1; i <= 120; i++) {
            check.due("type, " + i, b.type(32), i);
        }
        check.due("type beyond 120", b.type(32), -3);
        check.due("BAD ahead of FULL", b.type(256), -1);
        check.due("count(6) when full", b.count(6), 120);
        check.due("120 blanks tell nothing", b.sheds(), 0);
        check.due("the text is empty then", b.count(6), 0);
    }

    private static void shedsTell() {
        check.due("nothing", Check.read(""), 0);
        check.due("blanks", Check.read("   "), 0);
        check.due("one item", Check.read("w1 0;"), 1);
        check.due("blanks everywhere", Check.read("  w  1   6  ;  x  0 ;  "), 2);
        check.due("no blanks but between numbers", Check.read("w9 6;p9 9 1;t30 5;x40;"), 4);
        check.due("least numbers", Check.read("w1 0;p0 1 0;t1 0;x0;"), 4);
        check.due("three people, four thoughts", Check.read("p0 1 0;p0 1 0;p0 1 0;t1 0;t1 0;t1 0;t1 0;"), 7);
        ThoughtBalloon b = Check.told("w3 6;w3 1;x 7;p4 5 1;t 8 2;p6 1 0;");
        check.due("the later wind", b.wind(3), -2);
        check.due("start", b.count(2), 7);
        check.due("the car is there", b.now(1), 7);
        check.due("people", b.count(0), 2);
        check.due("thoughts", b.count(1), 1);
        StringBuilder full = new StringBuilder("x9;");
        while (full.length() < 120 - 5) {
            full.append("w1 4;");
        }
        full.append(" ".repeat(120 - full.length()));
        check.due("a text of 120 bytes", Check.read(full.toString()), 24);
    }

    private static void shedsAnew() {
        ThoughtBalloon b = Check.told("w1 6;p0 9 1;t9 0;x5;");
        b.begins(0, 0);
        b.minutes(2);
        b.saw(0, 1, 1);
        b.hears(1, 1);
        b.keep(0);
        b.keep(1);
        b.mark(5, 0);
        Check.type(b, "p3 4 0;");
        check.due("read anew", b.sheds(), 1);
        check.due("wind is gone", b.wind(1), 0);
        check.due("start is 20 again", b.now(1), 20);
        check.due("no thoughts", b.count(1), 0);
        check.due("one of people", b.count(0), 1);
        check.due("his weight", b.one(0, 0), 3);
        check.due("he is not in", b.one(0, 2), 0);
        check.due("nothing is used", b.one(0, 3), 0);
        check.due("minute", b.now(0), 0);
        check.due("height", b.now(2), 0);
        check.due("nobody thinks", b.now(3), -9);
        check.due("nothing is thought", b.now(4), -9);
        check.due("nothing seen", b.count(3), 0);
        check.due("nothing heard", b.count(4), 0);
        check.due("nothing to undo", b.undo(), -2);
        check.due("image 0 is gone", b.back(0), -2);
        check.due("image 1 is gone", b.back(1), -2);
        check.due("the trace stays", b.trace(), 100001);
        ThoughtBalloon lost = Check.told("w1 6;p0 9 1;t9 0;x40;");
        lost.begins(0, 0);
        lost.minutes(1);
        check.due("lost", lost.now(7), 1);
        check.due("an empty text tells all, too", lost.sheds(), 0);
        check.due("no longer lost", lost.now(7), 0);
        check.due("nobody", lost.count(0), 0);
    }

    private static void fault(String text, int place) {
        check.due("'" + text + "'", Check.read(text), -10 - place);
    }

    private static void faultsOfTokens() {
        fault("w", 1);
        fault("w  ", 3);
        fault("w1", 2);
        fault("w1 1", 4);
        fault("w1 1   ", 7);
        fault("w1 1;p", 6);
        fault(";", 0);
        fault("  ;", 2);
        fault("5;", 0);
        fault("a1;", 0);
        fault("ww1 1;", 0);
        fault("wp", 0);
        fault("wa1 1;", 0);
        fault("wz1 1;", 0);
        fault("w`1 1;", 1);
        fault("w{1 1;", 1);
        fault("W1 1;", 0);
        fault("w1 1;;", 5);
        fault("w;", 1);
        fault("w1;", 2);
        fault("w1 1 1;", 5);
        fault("w1 aa;", 3);
        fault("x ww;", 2);
        fault("w1 1 x3;", 5);
        fault("wx", 0);
        fault("w x", 2);
        fault("w1 1w2 2;", 4);
        fault("w1,1;", 2);
        fault("w1\t1;", 2);
        fault("w1 1;" + (char) 255, 5);
        fault("w1 1" + (char) 0 + ";", 4);
        fault("w-1 1;", 1);
        fault("x1 2;", 3);
        fault("p1 1;", 4);
        fault("t1;", 2);
        fault("x;", 1);
        fault("`", 0);
        fault("{", 0);
        fault("w/ 1;", 1);
        fault("w: 1;", 1);
    }

    private static void faultsOfNumbers() {
        fault("w0 1;", 1);
        fault("w10 1;", 1);
        fault("w1 7;", 3);
        fault("w100 1;", 1);
        fault("w01 1;", 1);
        fault("w1 00;", 3);
        fault("w1 06;", 3);
        fault("w4294967297 1;", 1);
        fault("w1 18446744073709551617;", 3);
        fault("p10 1 1;", 1);
        fault("p1 0 1;", 3);
        fault("p1 10 1;", 3);
        fault("p1 1 2;", 5);
        fault("p1 1 01;", 5);
        fault("t0 1;", 1);
        fault("t31 1;", 1);
        fault("t1 6;", 3);
        fault("x41;", 1);
        fault("x040;", 1);
        fault("x400;", 1);
        fault("x99;", 1);
        fault("x 4 0;", 4);
    }

    private static void faultsOfCounts() {
        fault("x1;x1;", 3);
        fault("x1; x", 4);
        fault("p1 1 1;p1 1 1;p1 1 1;p", 21);
        fault("p1 1 1;p1 1 1;p1 1 1; p1 1 1;", 22);
        fault("t1 1;t1 1;t1 1;t1 1;t1 1;", 20);
        check.due("w as often as one likes", Check.read("w1 1;w1 1;w1 1;w1 1;w1 1;w1 1;"), 6);
    }

    private static void faultsChangeNothing() {
        ThoughtBalloon b = Check.told("w1 6;w2 1;p2 9 1;p1 3 0;t9 1;t4 0;x5;");
        b.begins(0, 0);
        b.minutes(2);
        b.saw(0, 1, 1);
        b.hears(1, 1);
        b.keep(1);
        Check.type(b, "w1 1;p9 9 1;p8 8 0;p7 7 1;t1 5;x30;w5");
        String before = Check.all(b);
        check.due("fault", b.sheds(), -10 - 37);
        check.due("nothing has changed", before.equals(Check.all(b)) ? 1 : 0, 1);
        check.due("the text is as it was", b.count(6), 37);
        Check.type(b, " 1;");
        check.due("it can go on", b.sheds(), 7);
        check.due("wind", b.wind(5), -2);
        check.due("start", b.now(1), 30);
    }

    private static void winds() {
        ThoughtBalloon b = Check.told("w1 0;w2 1;w3 2;w4 3;w5 4;w6 5;w7 6;w9 6;");
        int[] winds = {0, -3, -2, -1, 0, 1, 2, 3, 0, 3};
        for (int h = 0; h <= 9; h++) {
            check.due("wind(" + h + ")", b.wind(h), winds[h]);
        }
        check.due("wind(-1)", b.wind(-1), -1000000);
        check.due("wind(10)", b.wind(10), -1000000);
        check.due("wind(MAX)", b.wind(Integer.MAX_VALUE), -1000000);
    }

    private static void people() {
        ThoughtBalloon b = Check.told("p9 1 0;p0 9 1;p5 4 1;t5 0;t9 1;t10 2;t6 3;");
        int[][] due = {{9, 1, 0, 0, 4}, {0, 9, 1, 0, 15}, {5, 4, 1, 0, 14}};
        for (int p = 0; p < 3; p++) {
            for (int what = 0; what < 5; what++) {
                check.due("one(" + p + ", " + what + ")", b.one(p, what), due[p][what]);
            }
            check.due("one(" + p + ", 5)", b.one(p, 5), -1);
            check.due("one(" + p + ", -1)", b.one(p, -1), -1);
        }
        check.due("one(3, 0)", b.one(3, 0), -1);
        check.due("one(-1, 0)", b.one(-1, 0), -1);
        b.begins(1, 3);
        b.begins(2, 0);
        b.begins(1, 1);
        check.due("used by 0", b.one(0, 3), 0);
        check.due("used by 1", b.one(1, 3), 10);
        check.due("used by 2", b.one(2, 3), 1);
        b.leaves(2);
        check.due("2 is out", b.one(2, 2), 0);
        check.due("used by 2 still", b.one(2, 3), 1);
        b.enters(0);
        check.due("0 is in", b.one(0, 2), 1);
    }

    private static void thoughts() {
        ThoughtBalloon b = Check.told("t1 0;t30 5;t17 3;");
        int[][] due = {{1, 0}, {30, 5}, {17, 3}};
        for (int t = 0; t < 3; t++) {
            check.due("thought(" + t + ", 0)", b.thought(t, 0), due[t][0]);
            check.due("thought(" + t + ", 1)", b.thought(t, 1), due[t][1]);
            check.due("thought(" + t + ", 2)", b.thought(t, 2), -1);
            check.due("thought(" + t + ", -1)", b.thought(t, -1), -1);
        }
        check.due("thought(3, 0)", b.thought(3, 0), -1);
        check.due("thought(-1, 0)", b.thought(-1, 0), -1);
    }
}
