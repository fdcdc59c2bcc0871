/** Promises 19 to 24: saw, which, look, hears, laws, forget. */
public final class SeenTest {
    private static final Check check = new Check();

    public static void main(String[] args) {
        saw();
        which();
        whichFromNow();
        look();
        hears();
        laws();
        forget();
        check.end();
    }

    private static void saw() {
        ThoughtBalloon b = Check.told("p0 9 1;p0 9 0;t1 0;");
        check.due("saw(-1, 1, 0)", b.saw(-1, 1, 0), -1);
        check.due("saw(2, 1, 0)", b.saw(2, 1, 0), -1);
        check.due("saw(0, 0, 0)", b.saw(0, 0, 0), -1);
        check.due("saw(0, 10, 0)", b.saw(0, 10, 0), -1);
        check.due("saw(0, 1, -1)", b.saw(0, 1, -1), -1);
        check.due("saw(0, 1, 10)", b.saw(0, 1, 10), -1);
        check.due("nothing was seen", b.count(3), 0);
        check.due("1", b.saw(0, 1, 0), 1);
        check.due("2", b.saw(1, 9, 9), 2);
        for (int i = 3; i <= 6; i++) {
            check.due("the same again is more", b.saw(0, 1, 0), i);
        }
        check.due("FULL", b.saw(0, 1, 0), -3);
        check.due("BAD ahead of FULL", b.saw(2, 1, 0), -1);
        check.due("6", b.count(3), 6);
    }

    private static void which() {
        ThoughtBalloon b = Check.told("p3 9 1;p2 2 0;t4 0;t9 2;t3 0;t30 0;");
        check.due("which(-1)", b.which(-1), -1);
        check.due("which(2)", b.which(2), -1);
        check.due("all", b.which(0), 15);
        b.saw(0, 1, 1);
        check.due("one lifts not", b.which(0), 11);
        check.due("nothing was seen of 1", b.which(1), 15);
        b.saw(0, 3, 2);
        check.due("just the one that fades", b.which(0), 2);
        b.saw(1, 3, 1);
        check.due("1 need not be in, his breath is short", b.which(1), 11);
        b.saw(0, 4, 3);
        check.due("none", b.which(0), 0);
        ThoughtBalloon used = Check.told("p3 9 1;t4 0;t9 2;");
        used.begins(0, 1);
        used.saw(0, 9, 9);
        check.due("may be used", used.which(0), 1);
        check.due("no thoughts", Check.told("p3 9 1;").which(0), 0);
    }

    private static void whichFromNow() {
        ThoughtBalloon b = Check.told("w3 6;p0 9 1;p5 9 0;t4 0;t6 0;x35;");
        b.saw(1, 1, 1);
        check.due("who is in now", b.which(1), 3);
        b.enters(1);
        check.due("heavier now", b.which(1), 2);
        b.begins(0, 1);
        b.minutes(2);
        check.due("not at height 1 in a minute", b.which(1), 1);
        b.forget();
        b.saw(1, 9, 3);
        check.due("lost in height 3 on the way, for one", b.which(1), 0);
        b.minutes(1);
        check.due("height 3 in cell 38", b.now(1), 38);
        b.forget();
        b.saw(0, 9, 4);
        check.due("above there is no wind", b.which(0), 0);
        b.forget();
        b.saw(0, 5, 0);
        check.due("down", b.which(0), 1);
        ThoughtBalloon lost = Check.told("w1 6;p0 9 1;t4 0;t6 0;x40;");
        lost.begins(0, 0);
        lost.minutes(1);
        lost.saw(0, 9, 1);
        check.due("a lost car stays", lost.which(0), 3);
    }

    private static void look() {
        ThoughtBalloon b = Check.told("p3 9 1;p2 2 0;t4 0;t9 2;t5 1;t30 0;");
        check.due("look(-1)", b.look(-1), -1);
        check.due("look(2)", b.look(2), -1);
        check.due("heights 3 2 0 3: at most two alike", b.look(0), 3);
        b.saw(0, 4, 4);
        check.due("two that are always alike", b.which(0), 9);
        check.due("the least m", b.look(0), 1);
        b.saw(0, 5, 4);
        check.due("none of them", b.look(0), -9);
        check.due("short of breath", b.look(1), 2);
        ThoughtBalloon one = Check.told("p3 9 1;t4 0;");
        check.due("just one", one.look(0), 1);
        check.due("no thoughts", Check.told("p3 9 1;").look(0), -9);
        ThoughtBalloon three = Check.told("p2 9 1;t3 0;t9 1;t8 2;");
        check.due("two of three, then each for itself", three.look(0), 7);
        check.due("alike until the last minute", Check.told("p3 9 1;t30 0;t12 1;").look(0), 9);
    }

    private static void hears() {
        ThoughtBalloon b = new ThoughtBalloon();
        check.due("hears(-1, 0)", b.hears(-1, 0), -1);
        check.due("hears(10, 0)", b.hears(10, 0), -1);
        check.due("hears(0, -1)", b.hears(0, -1), -1);
        check.due("hears(0, 31)", b.hears(0, 31), -1);
        check.due("nothing was heard", b.count(4), 0);
        check.due("edges", b.hears(0, 30), 1);
        check.due("edges", b.hears(9, 0), 2);
        for (int i = 3; i <= 6; i++) {
            check.due("more", b.hears(1, 1), i);
        }
        check.due("FULL", b.hears(1, 1), -3);
        check.due("BAD ahead of FULL", b.hears(1, 31), -1);
        check.due("6", b.count(4), 6);
    }

    private static void laws() {
        ThoughtBalloon b = new ThoughtBalloon();
        check.due("laws(-1)", b.laws(-1), -1);
        check.due("laws(2)", b.laws(2), -1);
        check.due("all", b.laws(0), 180);
        check.due("the first of all", b.laws(1), 10);
        b.hears(0, 12);
        check.due("the lift is known", b.laws(0), 6);
        check.due("the least fade", b.laws(1), 120);
        b.hears(9, 0);
        check.due("12 less 9 times 2, 0 at least", b.laws(0), 4);
        check.due("12 and 2", b.laws(1), 122);
        b.hears(3, 3);
        check.due("just one", b.laws(0), 1);
        check.due("12 and 3", b.laws(1), 123);
        b.hears(3, 4);
        check.due("no law", b.laws(0), 0);
        check.due("NONE", b.laws(1), -9);
        ThoughtBalloon faded = new ThoughtBalloon();
        faded.hears(1, 0);
        check.due("lift of the fade at most", faded.laws(0), 15);
        check.due("1 and 1", faded.laws(1), 11);
        ThoughtBalloon greatest = new ThoughtBalloon();
        greatest.hears(1, 30);
        check.due("30 and 0", greatest.laws(1), 300);
        check.due("no other", greatest.laws(0), 1);
        greatest = new ThoughtBalloon();
        greatest.hears(2, 20);
        check.due("20 0, 22 1, .. 30 5", greatest.laws(0), 6);
    }

    private static void forget() {
        ThoughtBalloon b = Check.told("p3 9 1;t4 0;");
        check.due("nothing", b.forget(), 0);
        b.saw(0, 1, 0);
        b.saw(0, 2, 0);
        b.hears(0, 1);
        check.due("not so", b.which(0), 0);
        check.due("both", b.forget(), 3);
        check.due("SEEN", b.count(3), 0);
        check.due("HEARD", b.count(4), 0);
        check.due("all may be", b.which(0), 1);
        check.due("all laws", b.laws(0), 180);
        check.due("nothing more", b.forget(), 0);
    }
}
