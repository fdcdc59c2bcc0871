/** Promises 8 to 13: begins, minutes, enters, leaves, undo, now. */
public final class DoneTest {
    private static final Check check = new Check();

    public static void main(String[] args) {
        begins();
        holds();
        breathEnds();
        minutes();
        heights();
        lost();
        enters();
        leaves();
        undo();
        undoOfTen();
        undoOfEach();
        now();
        cover();
        check.end();
    }

    private static void begins() {
        ThoughtBalloon b = Check.told("w1 6;p0 9 1;p1 9 0;t5 1;t7 2;x38;");
        check.due("begins(-1, 0)", b.begins(-1, 0), -1);
        check.due("begins(2, 0)", b.begins(2, 0), -1);
        check.due("begins(0, -1)", b.begins(0, -1), -1);
        check.due("begins(0, 2)", b.begins(0, 2), -1);
        check.due("BAD ahead of STATE", b.begins(1, 2), -1);
        check.due("he is not in", b.begins(1, 0), -2);
        check.due("what is refused is not to be undone", b.count(5), 0);
        check.due("begins(0, 0)", b.begins(0, 0), 5);
        check.due("who", b.now(3), 0);
        check.due("what", b.now(4), 0);
        check.due("used by him", b.begins(0, 0), -2);
        check.due("another takes its place", b.begins(0, 1), 7);
        check.due("what then", b.now(4), 1);
        check.due("used still", b.begins(0, 0), -2);
        b.enters(1);
        check.due("not used by the other", b.begins(1, 0), 5);
        check.due("who then", b.now(3), 1);
        check.due("the first thinks no more", b.now(4), 0);
        check.due("minutes(1)", b.minutes(1), 40);
        check.due("lost", b.now(7), 1);
        check.due("STATE: lost", b.begins(1, 1), -2);
        check.due("BAD ahead of lost", b.begins(1, 2), -1);
    }

    private static void holds() {
        ThoughtBalloon b = Check.told("p9 9 1;t9 4;t30 5;");
        check.due("HOLD at first", b.begins(0, 0), 9);
        int[] due = {5, 1, 0, 0};
        for (int hold : due) {
            b.minutes(1);
            check.due("HOLD in minute " + b.now(0), b.now(5), hold);
        }
        check.due("HOLD anew", b.begins(0, 1), 30);
        b.minutes(6);
        check.due("30 less 6 times 5", b.now(5), 0);
        check.due("used in any minute", b.begins(0, 0), -2);
    }

    private static void breathEnds() {
        ThoughtBalloon b = Check.told("p2 3 1;p3 5 1;t20 1;t20 0;");
        b.begins(0, 0);
        b.minutes(3);
        check.due("as long as m is BREATH", b.now(5), 17);
        check.due("risen each minute", b.now(2), 3);
        b.minutes(1);
        check.due("then 0", b.now(5), 0);
        check.due("lower then", b.now(2), 2);
        check.due("who thinks", b.now(3), 0);
        check.due("what he thinks", b.now(4), 0);
        b.begins(1, 1);
        b.minutes(5);
        check.due("the breath of who thinks", b.now(5), 20);
        b.minutes(1);
        check.due("is longer", b.now(5), 0);
    }

    private static void minutes() {
        ThoughtBalloon b = Check.told("x7;");
        check.due("minutes(0)", b.minutes(0), -1);
        check.due("minutes(10)", b.minutes(10), -1);
        check.due("minutes(-1)", b.minutes(-1), -1);
        check.due("minutes(MAX)", b.minutes(Integer.MAX_VALUE), -1);
        for (int i = 1; i <= 10; i++) {
            check.due("minutes(9)", b.minutes(9), 7);
            check.due("the minute", b.now(0), 9 * i);
        }
        check.due("minutes(8)", b.minutes(8), 7);
        check.due("98 and 2", b.minutes(2), -2);
        check.due("the minute stays", b.now(0), 98);
        check.due("98 and 1", b.minutes(1), 7);
        check.due("99 and 1", b.minutes(1), -2);
        check.due("BAD ahead of STATE", b.minutes(10), -1);
        check.due("99", b.now(0), 99);
    }

    private static void heights() {
        ThoughtBalloon b = Check.told("w1 4;w2 5;w3 2;w9 4;p3 9 1;p2 9 1;t30 0;t6 1;t5 0;x10;");
        b.begins(0, 1);
        check.due("6 less 1 is the weight: as high", b.minutes(1), 10);
        check.due("on the ground", b.now(2), 0);
        check.due("less: 0 at least", b.minutes(1), 10);
        check.due("on the ground still", b.now(2), 0);
        b.begins(1, 0);
        check.due("wind of height 1", b.minutes(1), 11);
        check.due("wind of height 2", b.minutes(1), 13);
        check.due("wind of height 3", b.minutes(1), 12);
        check.due("none above", b.minutes(5), 12);
        check.due("height", b.now(2), 8);
        check.due("wind of height 9", b.minutes(1), 13);
        b.begins(0, 0);
        check.due("9 at most", b.minutes(3), 16);
        check.due("height 9", b.now(2), 9);
        b.begins(0, 2);
        check.due("alike: stays in the wind", b.minutes(2), 18);
        check.due("height 9 still", b.now(2), 9);
        check.due("9 minutes as one deed", b.minutes(9), 25);
        check.due("7 alike and 2 down", b.now(2), 7);
    }

    private static void lost() {
        ThoughtBalloon b = Check.told("w1 6;w2 0;p0 9 1;t9 0;x37;");
        b.begins(0, 0);
        check.due("cell 40 is none beyond", b.minutes(1), 40);
        check.due("not lost", b.now(7), 0);
        check.due("back", b.minutes(1), 37);
        ThoughtBalloon low = Check.told("w1 0;p0 9 1;t9 0;x3;");
        low.begins(0, 0);
        check.due("cell 0 is none beyond", low.minutes(1), 0);
        check.due("not lost", low.now(7), 0);
        low = Check.told("w1 0;w2 6;p0 3 1;t9 0;x2;");
        low.begins(0, 0);
        check.due("beyond 0", low.minutes(1), 0);
        check.due("lost", low.now(7), 1);
        check.due("stays", low.minutes(9), 0);
        check.due("does not rise or fall", low.now(2), 1);
        check.due("minutes go by", low.now(0), 10);
        check.due("99 at most", low.minutes(9) + low.minutes(9), 0);
        ThoughtBalloon high = Check.told("w1 5;p0 9 1;t9 0;x39;");
        high.begins(0, 0);
        check.due("beyond 40", high.minutes(2), 40);
        check.due("lost", high.now(7), 1);
        check.due("no height 2", high.now(2), 1);
    }

    private static void enters() {
        ThoughtBalloon b = Check.told("w1 6;p1 9 0;p2 9 1;p4 9 0;t9 0;x38;");
        check.due("enters(-1)", b.enters(-1), -1);
        check.due("enters(3)", b.enters(3), -1);
        check.due("he is", b.enters(1), -2);
        check.due("enters(0)", b.enters(0), 2);
        check.due("weights", b.now(6), 3);
        check.due("he is then", b.enters(0), -2);
        check.due("enters(2)", b.enters(2), 3);
        check.due("weights of all", b.now(6), 7);
        b.leaves(2);
        b.begins(0, 0);
        b.minutes(1);
        check.due("lost", b.enters(2), -2);
        b = Check.told("p1 9 1;p4 9 0;t9 0;");
        b.begins(0, 0);
        b.minutes(1);
        check.due("not on the ground", b.enters(1), -2);
        check.due("BAD ahead of STATE", b.enters(2), -1);
    }

    private static void leaves() {
        ThoughtBalloon b = Check.told("p1 9 1;p2 9 1;p4 9 0;t9 0;t30 0;");
        check.due("leaves(-1)", b.leaves(-1), -1);
        check.due("leaves(3)", b.leaves(3), -1);
        check.due("he is not", b.leaves(2), -2);
        b.begins(0, 0);
        check.due("one who does not think", b.leaves(1), 1);
        check.due("who thinks goes on", b.now(3), 0);
        check.due("HOLD goes on", b.now(5), 9);
        check.due("one who thinks", b.leaves(0), 0);
        check.due("thinks no more", b.now(3), -9);
        check.due("nothing", b.now(4), -9);
        check.due("HOLD", b.now(5), 0);
        check.due("used still", b.one(0, 3), 1);
        check.due("back in", b.enters(0), 1);
        check.due("he does not think again", b.now(3), -9);
        check.due("used by him", b.begins(0, 0), -2);
        b.begins(0, 1);
        b.minutes(1);
        check.due("not on the ground", b.leaves(0), -2);
        check.due("BAD ahead of STATE", b.leaves(3), -1);
        b = Check.told("w1 6;p1 9 1;t9 0;x40;");
        b.begins(0, 0);
        b.minutes(1);
        check.due("lost", b.leaves(0), -2);
    }

    private static void undo() {
        ThoughtBalloon b = Check.told("w1 4;p1 9 1;p2 9 1;t9 1;t30 2;");
        check.due("none", b.undo(), -2);
        b.begins(0, 0);
        b.minutes(2);
        b.begins(1, 1);
        b.minutes(1);
        check.due("count(5)", b.count(5), 4);
        check.due("minutes undone", b.undo(), 3);
        check.due("the minute", b.now(0), 2);
        check.due("thought since then", b.now(5), 30);
        check.due("begun undone", b.undo(), 2);
        check.due("who thought before", b.now(3), 0);
        check.due("HOLD before", b.now(5), 7);
        check.due("no longer used", b.one(1, 3), 0);
        check.due("two minutes at once", b.undo(), 1);
        check.due("the minute", b.now(0), 0);
        check.due("the height", b.now(2), 0);
        check.due("the cell", b.now(1), 20);
        check.due("the first undone", b.undo(), 0);
        check.due("nobody thinks", b.now(3), -9);
        check.due("none is left", b.undo(), -2);
        check.due("it can be begun again", b.begins(0, 0), 9);
        check.due("one to be undone", b.count(5), 1);
    }

    private static void undoOfTen() {
        ThoughtBalloon b = new ThoughtBalloon();
        for (int i = 1; i <= 13; i++) {
            b.minutes(i % 3 + 1);
            check.due("10 are known", b.count(5), Math.min(i, 10));
        }
        int[] minute = new int[14];
        for (int i = 1; i <= 13; i++) {
            minute[i] = minute[i - 1] + i % 3 + 1;
        }
        check.due("the minute", b.now(0), minute[13]);
        for (int i = 12; i >= 3; i--) {
            check.due("undo()", b.undo(), i - 3);
            check.due("the minute", b.now(0), minute[i]);
        }
        check.due("older ones are lost", b.undo(), -2);
        check.due("the minute stays", b.now(0), minute[3]);
    }

    private static void undoOfEach() {
        ThoughtBalloon b = Check.told("w1 0;p1 9 1;p2 9 0;t9 0;x1;");
        b.begins(0, 0);
        String[] before = new String[4];
        before[0] = Check.all(b);
        b.enters(1);
        before[1] = Check.all(b);
        b.leaves(0);
        before[2] = Check.all(b);
        b.enters(0);
        check.due("out and in is no thought", b.now(5), 0);
        for (int i = 2; i >= 0; i--) {
            check.due("undo()", b.undo(), i + 1);
            check.due("all is as ahead", before[i].equals(Check.all(b)) ? 1 : 0, 1);
        }
        b.minutes(1);
        check.due("lost", b.now(7), 1);
        b.undo();
        check.due("not lost", b.now(7), 0);
        check.due("back in its cell", b.now(1), 1);
        check.due("back on the ground", b.now(2), 0);
        b.saw(0, 1, 1);
        b.hears(1, 1);
        b.undo();
        check.due("SEEN stays", b.count(3), 1);
        check.due("HEARD stays", b.count(4), 1);
    }

    private static void now() {
        ThoughtBalloon b = Check.told("w1 5;p1 9 1;p2 9 1;p9 1 0;t9 1;t30 2;t1 0;x11;");
        b.minutes(3);
        b.begins(1, 1);
        b.minutes(2);
        int[] due = {5, 13, 2, 1, 1, 26, 3, 0, 2};
        for (int what = 0; what < due.length; what++) {
            check.due("now(" + what + ")", b.now(what), due[what]);
        }
        check.due("now(-1)", b.now(-1), -1);
        check.due("now(9)", b.now(9), -1);
    }

    private static void cover() {
        check.due("nobody", new ThoughtBalloon().now(8), 0);
        check.due("no thoughts", Check.told("p0 1 0;").now(8), -9);
        check.due("nobody, thoughts", Check.told("t1 0;").now(8), 0);
        check.due("as heavy is not lifted", Check.told("p5 1 1;t5 0;").now(8), -9);
        check.due("one too heavy", Check.told("p5 1 1;p9 1 0;t6 0;t9 0;").now(8), -9);
        check.due("who is out counts", Check.told("p5 1 1;p9 1 0;t6 0;t10 0;t30 0;").now(8), 2);
        check.due("the least set", Check.told("p5 1 1;p3 1 0;t4 0;t9 0;t5 0;t6 0;").now(8), 2);
    }
}
