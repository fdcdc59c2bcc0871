/** What the tests share: the balloon under test, and a count of the answers that are not as due. */
final class Check {
    private int wrong = 0;
    private int asked = 0;

    void due(String call, long got, long want) {
        asked++;
        if (got != want) {
            wrong++;
            System.out.println(call + " answered " + got + ", due is " + want);
        }
    }

    int asked() {
        return asked;
    }

    /** Ends the test, with exit code 1 if an answer was not as due. */
    void end() {
        System.out.println(asked + " answers, " + wrong + " not as due");
        if (wrong != 0 || asked == 0) {
            System.exit(1);
        }
    }

    static void type(ThoughtBalloon b, String text) {
        for (int i = 0; i < text.length(); i++) {
            b.type(text.charAt(i));
        }
    }

    /** A new balloon that has read a text; a text that is at fault is a mistake of the test. */
    static ThoughtBalloon told(String text) {
        ThoughtBalloon b = new ThoughtBalloon();
        type(b, text);
        if (b.sheds() < 0) {
            throw new IllegalArgumentException(text);
        }
        return b;
    }

    /** What sheds() answers to a text, typed into a new balloon. */
    static int read(String text) {
        ThoughtBalloon b = new ThoughtBalloon();
        type(b, text);
        return b.sheds();
    }

    /** All that a balloon answers without a change, in one line, so that two balloons can be compared. */
    static String all(ThoughtBalloon b) {
        return untraced(b) + ' ' + b.trace();
    }

    private static String untraced(ThoughtBalloon b) {
        StringBuilder s = new StringBuilder();
        for (int h = 0; h <= 9; h++) {
            s.append(b.wind(h)).append(' ');
        }
        for (int what = 0; what <= 8; what++) {
            s.append(b.now(what)).append(' ');
        }
        for (int what = 0; what <= 6; what++) {
            s.append(b.count(what)).append(' ');
        }
        for (int p = 0; p < 3; p++) {
            for (int what = 0; what <= 4; what++) {
                s.append(b.one(p, what)).append(' ');
            }
            s.append(b.which(p)).append(' ').append(b.look(p)).append(' ');
        }
        for (int t = 0; t < 4; t++) {
            s.append(b.thought(t, 0)).append(' ').append(b.thought(t, 1)).append(' ');
        }
        s.append(b.laws(0)).append(' ').append(b.laws(1));
        for (int n = 0; n <= 30; n += 5) {
            s.append(' ').append(b.after(n, 0)).append(' ').append(b.after(n, 1));
        }
        return s.append(' ').append(b.down()).toString();
    }

    /** As all(), and with what may be undone, the images and the text, which are used up by it. */
    static String everything(ThoughtBalloon b) {
        return everythingUntraced(b) + ' ' + b.trace();
    }

    static String everythingUntraced(ThoughtBalloon b) {
        StringBuilder s = new StringBuilder(untraced(b));
        while (b.count(5) > 0) {
            s.append(" undo ").append(b.undo()).append(' ').append(flight(b));
        }
        for (int image = 0; image <= 1; image++) {
            s.append(" back ").append(b.back(image)).append(' ').append(flight(b));
            while (b.count(5) > 0) {
                s.append(' ').append(b.undo()).append(' ').append(b.now(0));
            }
        }
        return s.append(" sheds ").append(b.sheds()).append(' ').append(b.clear()).toString();
    }

    private static String flight(ThoughtBalloon b) {
        StringBuilder s = new StringBuilder();
        for (int what = 0; what <= 7; what++) {
            s.append(b.now(what)).append(' ');
        }
        for (int p = 0; p < 3; p++) {
            s.append(b.one(p, 2)).append(' ').append(b.one(p, 3)).append(' ');
        }
        return s.toString();
    }
}
