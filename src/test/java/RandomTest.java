import java.util.ArrayList;
import java.util.List;
import java.util.Random;

/** Runs of 512 calls, drawn from a fixed seed, each answer compared with the Model's. */
public final class RandomTest {
    private static final int RUNS = 400;
    private final Random random;
    private final ThoughtBalloon b = new ThoughtBalloon();
    private final Model m = new Model();
    private final Check check;
    private final List<String> log = new ArrayList<>();
    private int calls = 0;

    private RandomTest(long seed, Check check) {
        random = new Random(seed);
        this.check = check;
    }

    public static void main(String[] args) {
        Check check = new Check();
        for (int run = 0; run < RUNS; run++) {
            new RandomTest(run, check).run();
        }
        check.end();
    }

    private void run() {
        while (calls < 512) {
            if (random.nextInt(calls < 5 ? 2 : 120) == 0) {
                typeAll(random.nextInt(4) == 0 ? spoilt(text()) : text());
                call(2, 0, 0, 0, 0, 0);
            } else if (random.nextInt(60) == 0) {
                call(random.nextInt(2), random.nextInt(260) - 2, 0, 0, 0, 0);
            } else {
                int which = random.nextInt(5) == 0 ? 6 + random.nextInt(5) : 3 + random.nextInt(25);
                drawn(which);
            }
        }
    }

    /** From low to high, now and then one beyond. */
    private int from(int low, int high) {
        if (random.nextInt(25) == 0) {
            return random.nextBoolean() ? low - 1 : high + 1;
        }
        return low + random.nextInt(high - low + 1);
    }

    private int person() {
        return from(0, Math.max(0, m.count(0) - 1));
    }

    private int thought() {
        return from(0, Math.max(0, m.count(1) - 1));
    }

    private void drawn(int which) {
        switch (which) {
            case 3 -> call(3, from(0, 9), 0, 0, 0, 0);
            case 4 -> call(4, person(), from(0, 4), 0, 0, 0);
            case 5 -> call(5, thought(), from(0, 1), 0, 0, 0);
            case 6 -> call(6, person(), thought(), 0, 0, 0);
            case 7 -> call(7, from(1, random.nextInt(3) == 0 ? 9 : 3), 0, 0, 0, 0);
            case 8, 9 -> call(which, person(), 0, 0, 0, 0);
            case 11 -> call(11, from(0, 8), 0, 0, 0, 0);
            case 12 -> call(12, from(0, 30), from(0, 1), 0, 0, 0);
            case 14 -> call(14, random.nextInt(6) == 0 ? from(0, 4) : from(0, 3), from(0, 1), from(-1, 3), 0, 0);
            case 15 -> call(15, random.nextInt(3) == 0 ? -1 : person(), 0, 0, 0, 0);
            case 16 -> {
                int n = from(0, 6);
                int h = from(1, 9);
                int steps = random.nextInt(n < 0 ? 1 : n + 1) * 2 - n;
                int cell = random.nextInt(3) == 0 ? from(0, 40) : b.now(1) + steps * Math.max(-3, b.wind(h));
                int x = from(0, 10);
                call(16, h, cell, n, x, 0);
                call(16, h, cell, n, x, from(0, 1));
            }
            case 17 -> {
                int p = person();
                int minute = from(1, 9);
                int height = random.nextInt(3) == 0 ? from(0, 9) : Math.max(0, b.after(Math.max(0, minute), 1));
                call(17, p, minute, height, 0, 0);
            }
            case 18, 19 -> call(which, person(), 0, 0, 0, 0);
            case 20 -> {
                int minute = from(0, 9);
                int hold = random.nextInt(3) == 0 ? from(0, 30) : Math.max(0, 21 - minute * 3);
                call(20, minute, hold, 0, 0, 0);
            }
            case 21 -> call(21, from(0, 1), 0, 0, 0, 0);
            case 23 -> call(23, from(0, 5), person(), 0, 0, 0);
            case 24, 25 -> call(which, from(0, 1), 0, 0, 0, 0);
            case 26 -> call(26, from(0, 6), 0, 0, 0, 0);
            default -> call(which, 0, 0, 0, 0, 0);
        }
    }

    private static final String[] NAMES = {"type", "clear", "sheds", "wind", "one", "thought", "begins", "minutes",
        "enters", "leaves", "undo", "now", "after", "down", "best", "own", "odds", "saw", "which", "look", "hears",
        "laws", "forget", "mark", "keep", "back", "count", "trace"};

    private void call(int which, int a, int c, int d, int e, int f) {
        calls++;
        String name = NAMES[which] + "(" + a + ", " + c + ", " + d + ", " + e + ", " + f + ")";
        log.add(name);
        long want = model(which, a, c, d, e, f);
        long got = balloon(which, a, c, d, e, f);
        if (got != want && log.size() < 200) {
            System.out.println("a run with a wrong last answer: " + log);
        }
        check.due(name, got, want);
    }

    private long balloon(int which, int a, int c, int d, int e, int f) {
        return switch (which) {
            case 0 -> b.type(a);
            case 1 -> b.clear();
            case 2 -> b.sheds();
            case 3 -> b.wind(a);
            case 4 -> b.one(a, c);
            case 5 -> b.thought(a, c);
            case 6 -> b.begins(a, c);
            case 7 -> b.minutes(a);
            case 8 -> b.enters(a);
            case 9 -> b.leaves(a);
            case 10 -> b.undo();
            case 11 -> b.now(a);
            case 12 -> b.after(a, c);
            case 13 -> b.down();
            case 14 -> b.best(a, c, d);
            case 15 -> b.own(a);
            case 16 -> b.odds(a, c, d, e, f);
            case 17 -> b.saw(a, c, d);
            case 18 -> b.which(a);
            case 19 -> b.look(a);
            case 20 -> b.hears(a, c);
            case 21 -> b.laws(a);
            case 22 -> b.forget();
            case 23 -> b.mark(a, c);
            case 24 -> b.keep(a);
            case 25 -> b.back(a);
            case 26 -> b.count(a);
            default -> b.trace();
        };
    }

    private long model(int which, int a, int c, int d, int e, int f) {
        return switch (which) {
            case 0 -> m.type(a);
            case 1 -> m.clear();
            case 2 -> m.sheds();
            case 3 -> m.wind(a);
            case 4 -> m.one(a, c);
            case 5 -> m.thought(a, c);
            case 6 -> m.begins(a, c);
            case 7 -> m.minutes(a);
            case 8 -> m.enters(a);
            case 9 -> m.leaves(a);
            case 10 -> m.undo();
            case 11 -> m.now(a);
            case 12 -> m.after(a, c);
            case 13 -> m.down();
            case 14 -> m.best(a, c, d);
            case 15 -> m.own(a);
            case 16 -> m.odds(a, c, d, e, f);
            case 17 -> m.saw(a, c, d);
            case 18 -> m.which(a);
            case 19 -> m.look(a);
            case 20 -> m.hears(a, c);
            case 21 -> m.laws(a);
            case 22 -> m.forget();
            case 23 -> m.mark(a, c);
            case 24 -> m.keep(a);
            case 25 -> m.back(a);
            case 26 -> m.count(a);
            default -> m.trace();
        };
    }

    private void typeAll(String text) {
        if (random.nextInt(10) > 0) {
            call(1, 0, 0, 0, 0, 0);
        }
        for (int i = 0; i < text.length(); i++) {
            call(0, text.charAt(i), 0, 0, 0, 0);
        }
    }

    private String blanks() {
        return " ".repeat(random.nextInt(12) == 0 ? random.nextInt(3) : 0);
    }

    private String item(String letter, int... numbers) {
        StringBuilder s = new StringBuilder(blanks()).append(letter);
        for (int i = 0; i < numbers.length; i++) {
            s.append(i == 0 ? blanks() : " " + blanks()).append(numbers[i]);
        }
        return s.append(blanks()).append(';').append(blanks()).toString();
    }

    /** A text that is told well: some winds, people, thoughts and a start, in any order. */
    private String text() {
        List<String> items = new ArrayList<>();
        int light = random.nextInt(3);
        for (int i = random.nextInt(4); i > 0; i--) {
            int weight = light == 0 ? random.nextInt(10) : random.nextInt(4);
            items.add(item("p", weight, 1 + random.nextInt(9), random.nextInt(4) == 0 ? 0 : 1));
        }
        for (int i = random.nextInt(5); i > 0; i--) {
            items.add(item("t", 1 + random.nextInt(light == 2 ? 10 : 30), random.nextInt(6)));
        }
        for (int h = 1; h <= 9; h++) {
            if (random.nextInt(3) > 0) {
                items.add(item("w", h, random.nextInt(7)));
            }
        }
        if (random.nextBoolean()) {
            items.add(item("x", random.nextBoolean() ? random.nextInt(41) : random.nextBoolean() ? 1 : 39));
        }
        StringBuilder s = new StringBuilder();
        while (!items.isEmpty()) {
            s.append(items.remove(random.nextInt(items.size())));
        }
        return s.toString();
    }

    private String spoilt(String text) {
        StringBuilder s = new StringBuilder(text);
        String signs = "wptx;; 00123456789za-" + (char) 200;
        for (int i = random.nextInt(2); i >= 0; i--) {
            int at = random.nextInt(s.length() + 1);
            switch (random.nextInt(4)) {
                case 0 -> s.setLength(at);
                case 1 -> s.insert(at, signs.charAt(random.nextInt(signs.length())));
                case 2 -> s.insert(at, item("x", random.nextInt(110)));
                default -> {
                    if (at < s.length()) s.deleteCharAt(at);
                }
            }
        }
        return s.toString();
    }
}
