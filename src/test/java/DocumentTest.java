import java.lang.reflect.Method;
import java.util.List;
import java.util.regex.Matcher;
import java.util.regex.Pattern;

/** Every place where the document names a boundary is quoted by a test of the Bounds, and each promise has one. */
public final class DocumentTest {
    private static final List<Class<? extends Bounds>> TESTS = List.of(BoundsShedsTest.class, BoundsDoneTest.class,
            BoundsCouldTest.class, BoundsSeenTest.class, BoundsKindsTest.class);
    /** Ranges, limits and refusals; LOST and beyond, as the car's own boundary. */
    private static final Pattern BOUNDARY = Pattern.compile("-?\\d+ \\.\\. -?\\d+|\\bat most\\b|\\bat least\\b|"
            + "\\b(BAD|STATE|FULL|NONE|NO|LOST|beyond|again|above|early|anew|lost|gone|none)\\b");

    public static void main(String[] args) throws Exception {
        Check check = new Check();
        Document document = new Document();
        boolean[] quoted = new boolean[document.text().length()];
        int[] tests = new int[Document.PROMISES + 1];
        for (Class<? extends Bounds> bounds : TESTS) {
            for (Method test : Bounds.tests(bounds)) {
                Says says = test.getAnnotation(Says.class);
                tests[says.promise()]++;
                quote(quoted, document.find(says.promise(), says.words()), says.words().length());
            }
        }
        for (int promise = 1; promise <= Document.PROMISES; promise++) {
            check.due("promise " + promise + " has a test", tests[promise] > 0 ? 1 : 0, 1);
        }
        Matcher boundary = BOUNDARY.matcher(document.text());
        boundary.region(document.startOfTerms(), document.startOf(Document.PROMISES + 1));
        while (boundary.find()) {
            check.due("quoted by a test: " + around(document.text(), boundary), all(quoted, boundary) ? 1 : 0, 1);
        }
        check.end();
    }

    private static void quote(boolean[] quoted, int from, int length) {
        for (int i = Math.max(0, from); i < from + length; i++) {
            quoted[i] = true;
        }
    }

    private static boolean all(boolean[] quoted, Matcher boundary) {
        for (int i = boundary.start(); i < boundary.end(); i++) {
            if (!quoted[i]) {
                return false;
            }
        }
        return true;
    }

    private static String around(String text, Matcher boundary) {
        int from = Math.max(0, boundary.start() - 40);
        int to = Math.min(text.length(), boundary.end() + 40);
        return text.substring(from, boundary.start()) + "[" + boundary.group() + "]" + text.substring(boundary.end(), to);
    }
}
