/** Promises 14 to 18: after, down, best, own, odds. */
public final class CouldTest {
    private static final Check check = new Check();

    public static void main(String[] args) {
        after();
        afterLost();
        down();
        best();
        bestOrder();
        bestDown();
        bestWrong();
        own();
        ownFirstWay();
        odds();
        oddsAtTheEnds();
        oddsWrong();
        nothingChanges();
        check.end();
    }

    private static void after() {
        ThoughtBalloon b = Check.told("w1 5;w2 4;w3 0;p3 4 1;t9 1;x20;");
        check.due("on the ground", b.after(30, 0), 20);
        b.begins(0, 0);
        int[] cells = {20, 22, 23, 20, 20, 17, 18, 20, 20, 20};
        int[] heights = {0, 1, 2, 3, 4, 3, 2, 1, 0, 0};
        for (int n = 0; n < cells.length; n++) {
            check.due("after(" + n + ", 0)", b.after(n, 0), cells[n]);
            check.due("after(" + n + ", 1)", b.after(n, 1), heights[n]);
        }
        check.due("after(30, 0)", b.after(30, 0), 20);
        check.due("after(-1, 0)", b.after(-1, 0), -1);
        check.due("after(31, 0)", b.after(31, 0), -1);
        check.due("after(1, 2)", b.after(1, 2), -1);
        check.due("after(1, -1)", b.after(1, -1), -1);
        ThoughtBalloon late = Check.told("w9 4;p0 9 1;t30 0;x0;");
        for (int i = 0; i < 11; i++) {
            late.minutes(9);
        }
        late.begins(0, 0);
        check.due("beyond 99", late.after(30, 0), 22);
        check.due("high beyond 99", late.after(30, 1), 9);
    }

    private static void afterLost() {
        ThoughtBalloon b = Check.told("w1 3;w2 0;p0 9 1;t9 0;x2;");
        b.begins(0, 0);
        check.due("beyond 0", b.after(2, 0), 0);
        check.due("the height stays", b.after(9, 1), 2);
        b.minutes(5);
        check.due("lost now", b.after(9, 1), 2);
        check.due("the cell stays", b.after(30, 0), 0);
    }

    private static void down() {
        check.due("on the ground", new ThoughtBalloon().down(), 1);
        ThoughtBalloon b = Check.told("p3 9 1;t9 2;");
        b.begins(0, 0);
        check.due("up 2 and down 2, alike in minute 3", b.down(), 5);
        b.minutes(3);
        check.due("from above", b.down(), 2);
        b.minutes(2);
        check.due("down already", b.down(), 1);
        ThoughtBalloon high = Check.told("p1 9 1;t30 0;");
        high.begins(0, 0);
        check.due("9 up, 9 down", high.down(), 18);
        ThoughtBalloon never = Check.told("p0 9 1;t1 0;");
        never.begins(0, 0);
        check.due("nothing pulls it down", never.down(), -9);
        ThoughtBalloon lost = Check.told("w3 6;p1 4 1;t30 0;x34;");
        lost.begins(0, 0);
        check.due("just so far: 40", lost.down(), 8);
        lost = Check.told("w3 6;p1 4 1;t30 0;x35;");
        lost.begins(0, 0);
        check.due("lost by then", lost.down(), -9);
        lost.minutes(9);
        check.due("lost now", lost.down(), -9);
    }

    private static void best() {
        ThoughtBalloon b = Check.told("w1 5;w2 3;w3 6;p3 1 1;p2 9 1;p0 9 0;t6 0;t9 1;x10;");
        check.due("best(0, 0, -1)", b.best(0, 0, -1), 10);
        check.due("best(0, 1, -1)", b.best(0, 1, -1), 0);
        check.due("best(1, 0, -1)", b.best(1, 0, -1), 12);
        check.due("best(1, 0, 0)", b.best(1, 0, 0), 0);
        check.due("best(2, 1, -1)", b.best(2, 1, -1), 2);
        check.due("best(2, 1, 0): 0 is out of breath", b.best(2, 1, 0), 0);
        check.due("best(2, 1, 1)", b.best(2, 1, 1), 1);
        check.due("best(3, 0, -1)", b.best(3, 0, -1), 15);
        check.due("best(3, 1, -1)", b.best(3, 1, -1), 3);
        check.due("best(3, 1, 0)", b.best(3, 1, 0), 0);
        check.due("best(3, 1, 1): 0 again, ahead of 1", b.best(3, 1, 1), 1);
        check.due("best(3, 1, 2): 0 has used all", b.best(3, 1, 2), 4);
        check.due("best(4, 1, -1)", b.best(4, 1, -1), 4);
        check.due("best(4, 0, -1)", b.best(4, 0, -1), 18);
        b.begins(1, 0);
        b.minutes(1);
        check.due("on its own way", b.best(2, 1, 0), -9);
        check.due("not used again", b.best(4, 1, -1), 5);
        ThoughtBalloon ground = Check.told("w1 0;p0 9 1;t30 0;x5;");
        check.due("better none", ground.best(4, 0, -1), 5);
        check.due("none is begun", ground.best(4, 0, 0), -9);
        ThoughtBalloon back = Check.told("w1 0;w2 6;p0 9 1;t30 0;x6;");
        check.due("through a bad wind", back.best(4, 0, -1), 6);
        check.due("3 is enough for even", back.best(2, 0, -1), 6);
        back = Check.told("w1 2;w2 6;p0 9 1;t30 0;x6;");
        check.due("through a bad wind", back.best(2, 0, -1), 8);
        check.due("first choice", back.best(2, 0, 0), 0);
        check.due("second choice", back.best(2, 0, 1), -9);
        ThoughtBalloon lost = Check.told("w1 6;w2 0;p0 9 1;t30 0;x38;");
        check.due("lost at 40", lost.best(4, 0, -1), 40);
        check.due("first of like rows: none", lost.best(4, 0, 0), -9);
        check.due("at last", lost.best(4, 0, 3), 0);
        check.due("lost: no higher", lost.best(4, 1, -1), 1);
    }

    private static void bestOrder() {
        ThoughtBalloon b = Check.told("p0 9 0;p0 9 1;t1 0;t30 0;");
        check.due("none ahead of all", b.best(3, 0, 0), -9);
        check.due("the lowest thought of who is in", b.best(1, 1, 0), 4);
        check.due("height", b.best(1, 1, -1), 1);
        b.enters(0);
        check.due("person 0 ahead of 1", b.best(1, 1, 0), 0);
        check.due("not so many", b.best(1, 1, 1), -9);
        b.begins(0, 0);
        check.due("none is enough then", b.best(2, 1, 0), -9);
        ThoughtBalloon late = Check.told("w1 5;p0 1 1;t30 0;t30 0;x0;");
        check.due("two minutes in the wind", late.best(3, 0, -1), 6);
        check.due("begun at once", late.best(3, 0, 0), 0);
        check.due("holds on: alike at 0", late.best(3, 0, 1), -9);
        ThoughtBalloon heavy = Check.told("p9 9 1;p9 9 1;p9 9 1;t30 3;t30 2;t28 0;");
        check.due("30 less 3 is alike", heavy.best(2, 1, -1), 2);
        check.due("30 less 2, then less 4", heavy.best(2, 1, 0), 1);
        check.due("another", heavy.best(2, 1, 1), 2);
        check.due("three", heavy.best(3, 1, -1), 3);
        check.due("three: first", heavy.best(3, 1, 0), 1);
        check.due("three: second", heavy.best(3, 1, 1), 2);
        check.due("three: third", heavy.best(3, 1, 2), -9);
    }

    private static void bestDown() {
        ThoughtBalloon b = Check.told("w1 0;w2 0;p3 9 1;t30 0;t1 0;x20;");
        b.begins(0, 0);
        b.minutes(1);
        check.due("down, out of a bad wind", b.best(1, 0, -1), 17);
        check.due("by a lesser thought", b.best(1, 0, 0), 1);
        check.due("at once", b.best(3, 0, 0), 1);
        check.due("and stays there", b.best(4, 0, -1), 17);
        ThoughtBalloon top = Check.told("w8 0;w9 6;p1 9 1;t30 0;t30 0;x10;");
        top.begins(0, 0);
        top.minutes(9);
        check.due("at the top", top.best(4, 0, -1), 22);
        check.due("held there", top.best(4, 0, 0), 1);
        ThoughtBalloon zero = Check.told("w1 0;w2 0;w3 0;p0 9 1;t30 0;t1 0;x5;");
        zero.begins(0, 0);
        zero.minutes(1);
        check.due("beyond 0 by all rows", zero.best(4, 0, -1), 0);
        check.due("so none is begun", zero.best(4, 0, 0), -9);
        zero.minutes(1);
        check.due("lost at 0", zero.best(4, 0, -1), 0);
    }

    private static void bestWrong() {
        ThoughtBalloon b = Check.told("p0 9 1;t1 0;");
        check.due("a choice beyond the minutes, asked first", b.best(1, 1, 1), -9);
        check.due("in no minute", b.best(0, 1, 0), -9);
        check.due("best(-1, 0, 0)", b.best(-1, 0, 0), -1);
        check.due("best(5, 0, 0)", b.best(5, 0, 0), -1);
        check.due("best(1, -1, 0)", b.best(1, -1, 0), -1);
        check.due("best(1, 2, 0)", b.best(1, 2, 0), -1);
        check.due("best(1, 0, -2)", b.best(1, 0, -2), -1);
        check.due("best(1, 0, 4)", b.best(1, 0, 4), -1);
        check.due("best(4, 1, 3)", b.best(4, 1, 3), -9);
    }

    private static void own() {
        ThoughtBalloon nobody = new ThoughtBalloon();
        check.due("nobody", nobody.own(-1), 0);
        check.due("own(0) of nobody", nobody.own(0), -1);
        ThoughtBalloon b = Check.told("p5 1 1;p3 1 0;t4 0;t6 0;");
        check.due("own(-2)", b.own(-2), -1);
        check.due("own(2)", b.own(2), -1);
        check.due("two", b.own(-1), 2);
        check.due("the heavy one", b.own(0), 1);
        check.due("the light one", b.own(1), 0);
        ThoughtBalloon none = Check.told("p5 1 1;p3 1 0;");
        check.due("no thoughts", none.own(-1), 0);
        check.due("none for 0", none.own(0), -9);
        check.due("none for 1", none.own(1), -9);
        ThoughtBalloon used = Check.told("p1 1 1;t4 0;");
        used.begins(0, 0);
        check.due("used or not", used.own(0), 0);
    }

    private static void ownFirstWay() {
        ThoughtBalloon b = Check.told("p1 1 1;p1 1 1;p1 1 1;t5 0;t9 0;");
        check.due("two of three", b.own(-1), 2);
        check.due("none last: 0", b.own(0), 0);
        check.due("none last: 1", b.own(1), 1);
        check.due("none last: 2", b.own(2), -9);
        b = Check.told("p1 1 1;p8 1 1;p4 1 1;t9 0;t5 0;t2 0;t2 0;");
        check.due("three", b.own(-1), 3);
        check.due("the lowest that leaves enough", b.own(0), 2);
        check.due("his only one", b.own(1), 0);
        check.due("what is left", b.own(2), 1);
        b = Check.told("p9 1 1;p8 1 1;p8 1 1;t9 0;t9 0;t1 0;t1 0;");
        check.due("one too heavy", b.own(-1), 2);
        check.due("he has none", b.own(0), -9);
        check.due("the next", b.own(1), 0);
        check.due("the last", b.own(2), 1);
    }

    private static void odds(ThoughtBalloon b, int h, int cell, int n, int x, int upper, int lower) {
        String call = "odds(" + h + ", " + cell + ", " + n + ", " + x + ")";
        check.due(call + " upper", b.odds(h, cell, n, x, 0), upper);
        check.due(call + " lower", b.odds(h, cell, n, x, 1), lower);
    }

    private static void odds() {
        ThoughtBalloon b = Check.told("w1 4;w2 0;w3 3;x20;");
        odds(b, 1, 20, 0, 3, 1, 1);
        odds(b, 1, 21, 0, 3, 0, 1);
        odds(b, 1, 21, 1, 3, 7, 10);
        odds(b, 1, 19, 1, 3, 3, 10);
        odds(b, 1, 20, 1, 3, 0, 1);
        odds(b, 1, 20, 2, 3, 21, 50);
        odds(b, 1, 22, 2, 3, 49, 100);
        odds(b, 1, 26, 6, 3, 117649, 1000000);
        odds(b, 1, 20, 6, 5, 5, 16);
        odds(b, 1, 26, 6, 0, 1, 1);
        odds(b, 1, 26, 6, 10, 0, 1);
        odds(b, 1, 14, 6, 10, 1, 1);
        odds(b, 2, 17, 1, 4, 3, 5);
        odds(b, 2, 23, 1, 4, 2, 5);
        odds(b, 2, 38, 6, 1, 1, 1000000);
        odds(b, 3, 20, 6, 7, 1, 1);
        odds(b, 3, 21, 6, 7, 0, 1);
        odds(b, 9, 20, 6, 7, 1, 1);
    }

    private static void oddsAtTheEnds() {
        ThoughtBalloon b = Check.told("w1 4;w2 6;p0 9 1;t9 0;x0;");
        odds(b, 1, 0, 2, 5, 1, 4);
        odds(b, 1, 1, 1, 5, 1, 2);
        odds(b, 1, 2, 2, 5, 1, 4);
        odds(b, 1, 0, 4, 5, 1, 8);
        odds(b, 2, 0, 2, 10, 0, 1);
        b = Check.told("w1 4;w2 6;p0 9 1;t9 0;x39;");
        odds(b, 1, 40, 1, 5, 1, 2);
        odds(b, 1, 39, 2, 5, 1, 2);
        odds(b, 2, 39, 2, 5, 1, 4);
        b.begins(0, 0);
        b.minutes(1);
        odds(b, 1, 40, 0, 5, 1, 1);
        odds(b, 1, 39, 1, 5, 1, 2);
    }

    private static void oddsWrong() {
        ThoughtBalloon b = new ThoughtBalloon();
        check.due("h 0", b.odds(0, 20, 1, 1, 0), -1);
        check.due("h 10", b.odds(10, 20, 1, 1, 0), -1);
        check.due("cell -1", b.odds(1, -1, 1, 1, 0), -1);
        check.due("cell 41", b.odds(1, 41, 1, 1, 0), -1);
        check.due("n -1", b.odds(1, 20, -1, 1, 0), -1);
        check.due("n 7", b.odds(1, 20, 7, 1, 0), -1);
        check.due("x -1", b.odds(1, 20, 1, -1, 0), -1);
        check.due("x 11", b.odds(1, 20, 1, 11, 0), -1);
        check.due("what -1", b.odds(1, 20, 1, 1, -1), -1);
        check.due("what 2", b.odds(1, 20, 1, 1, 2), -1);
        check.due("the edges are fine", b.odds(9, 40, 6, 10, 0), 0);
    }

    private static void nothingChanges() {
        ThoughtBalloon b = Check.told("w1 5;w2 3;w3 6;p3 1 1;p2 9 1;p0 9 0;t6 0;t9 1;x10;");
        b.begins(1, 1);
        b.minutes(2);
        String before = Check.all(b);
        b.after(30, 0);
        b.down();
        b.best(4, 0, -1);
        b.own(0);
        b.odds(1, 1, 6, 5, 0);
        check.due("nothing is changed", before.equals(Check.all(b)) ? 1 : 0, 1);
    }
}
