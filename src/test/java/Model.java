import java.util.ArrayList;
import java.util.Arrays;
import java.util.HashMap;
import java.util.List;
import java.util.Map;
import java.util.regex.Matcher;
import java.util.regex.Pattern;

/**
 * The document once more, in the Java library's own means and without care for speed: immutable states, all rows
 * of turns written out, all turns of the wind counted one by one. RandomTest compares the class with it.
 */
final class Model {
    record Person(int weight, int breath, boolean in) { }

    record Thought(int lift, int fade) { }

    record Report(int person, int minute, int value) { }

    record Now(int minute, int cell, int height, int who, int what, int since, List<Boolean> in,
            List<List<Boolean>> used, boolean lost) { }

    record Kept(Now now, List<Now> undo) { }

    private String text = "";
    private Map<Integer, Integer> winds = new HashMap<>();
    private List<Person> people = new ArrayList<>();
    private List<Thought> thoughts = new ArrayList<>();
    private int start = 20;
    private Now now = new Now(0, 20, 0, -9, -9, 0, List.of(), List.of(), false);
    private List<Now> undo = new ArrayList<>();
    private final List<Report> seen = new ArrayList<>();
    private final List<Report> heard = new ArrayList<>();
    private final Map<Integer, Kept> images = new HashMap<>();
    private long trace = 0;

    // ---- the sheds

    int type(int c) {
        if (c < 0 || c > 255) return -1;
        if (text.length() == 120) return -3;
        text += (char) c;
        return text.length();
    }

    int clear() {
        int had = text.length();
        text = "";
        return had;
    }

    private static final Pattern TOKEN = Pattern.compile("[a-z]+|[0-9]+|[^ ]", Pattern.DOTALL);
    private static final Map<String, int[][]> ITEMS = Map.of(
            "w", new int[][] {{1, 9}, {0, 6}},
            "p", new int[][] {{0, 9}, {1, 9}, {0, 1}},
            "t", new int[][] {{1, 30}, {0, 5}},
            "x", new int[][] {{0, 40}});

    int sheds() {
        List<String> words = new ArrayList<>();
        List<Integer> places = new ArrayList<>();
        Matcher m = TOKEN.matcher(text);
        while (m.find()) {
            words.add(m.group());
            places.add(m.start());
        }
        places.add(text.length());
        words.add("");
        Map<String, Integer> most = new HashMap<>(Map.of("p", 3, "t", 4, "x", 1, "w", 1000));
        List<List<Integer>> told = new ArrayList<>();
        List<String> kinds = new ArrayList<>();
        int i = 0;
        while (!words.get(i).isEmpty()) {
            String kind = words.get(i);
            if (!ITEMS.containsKey(kind) || most.merge(kind, -1, Integer::sum) < 0) return -10 - places.get(i);
            i++;
            List<Integer> numbers = new ArrayList<>();
            for (int[] range : ITEMS.get(kind)) {
                String word = words.get(i);
                if (!word.matches("0|[1-9][0-9]?")) return -10 - places.get(i);
                int number = Integer.parseInt(word);
                if (number < range[0] || number > range[1]) return -10 - places.get(i);
                numbers.add(number);
                i++;
            }
            if (!words.get(i).equals(";")) return -10 - places.get(i);
            i++;
            kinds.add(kind);
            told.add(numbers);
        }
        tell(kinds, told);
        return told.size();
    }

    private void tell(List<String> kinds, List<List<Integer>> told) {
        winds = new HashMap<>();
        people = new ArrayList<>();
        thoughts = new ArrayList<>();
        start = 20;
        for (int i = 0; i < told.size(); i++) {
            List<Integer> n = told.get(i);
            switch (kinds.get(i)) {
                case "w" -> winds.put(n.get(0), n.get(1) - 3);
                case "p" -> people.add(new Person(n.get(0), n.get(1), n.get(2) == 1));
                case "t" -> thoughts.add(new Thought(n.get(0), n.get(1)));
                default -> start = n.get(0);
            }
        }
        text = "";
        undo = new ArrayList<>();
        seen.clear();
        heard.clear();
        images.clear();
        List<List<Boolean>> used = new ArrayList<>();
        for (int p = 0; p < people.size(); p++) used.add(Arrays.asList(false, false, false, false));
        now = new Now(0, start, 0, -9, -9, 0, people.stream().map(Person::in).toList(), used, false);
    }

    private boolean noPerson(int p) {
        return p < 0 || p >= people.size();
    }

    private boolean noThought(int t) {
        return t < 0 || t >= thoughts.size();
    }

    private static int bits(List<Boolean> list) {
        int bits = 0;
        for (int i = 0; i < list.size(); i++) if (list.get(i)) bits += Math.round((float) Math.pow(2, i));
        return bits;
    }

    int wind(int h) {
        return h < 0 || h > 9 ? -1000000 : winds.getOrDefault(h, 0);
    }

    private List<Boolean> liftsOf(int p) {
        return thoughts.stream().map(t -> t.lift > people.get(p).weight).toList();
    }

    int one(int p, int what) {
        if (noPerson(p)) return -1;
        return switch (what) {
            case 0 -> people.get(p).weight;
            case 1 -> people.get(p).breath;
            case 2 -> now.in.get(p) ? 1 : 0;
            case 3 -> bits(now.used.get(p));
            case 4 -> bits(liftsOf(p));
            default -> -1;
        };
    }

    int thought(int t, int what) {
        if (noThought(t) || what < 0 || what > 1) return -1;
        return what == 0 ? thoughts.get(t).lift : thoughts.get(t).fade;
    }

    // ---- what is done

    private int hold(Now s) {
        if (s.who == -9) return 0;
        int m = s.minute - s.since;
        if (m > people.get(s.who).breath) return 0;
        int hold = thoughts.get(s.what).lift - m * thoughts.get(s.what).fade;
        return hold < 0 ? 0 : hold;
    }

    private int weights(Now s) {
        int sum = 0;
        for (int p = 0; p < people.size(); p++) if (s.in.get(p)) sum += people.get(p).weight;
        return sum;
    }

    private Now minute(Now s) {
        Now t = new Now(s.minute + 1, s.cell, s.height, s.who, s.what, s.since, s.in, s.used, s.lost);
        if (s.lost) return t;
        int height = s.height;
        if (hold(t) > weights(t)) {
            if (height < 9) height++;
        } else if (hold(t) < weights(t)) {
            if (height > 0) height--;
        }
        int cell = s.cell + wind(height);
        boolean lost = false;
        if (cell < 0) {
            cell = 0;
            lost = true;
        }
        if (cell > 40) {
            cell = 40;
            lost = true;
        }
        return new Now(t.minute, cell, height, s.who, s.what, s.since, s.in, s.used, lost);
    }

    private Now minutesOf(Now s, int n) {
        return n == 0 ? s : minutesOf(minute(s), n - 1);
    }

    private Now thinking(Now s, int p, int t) {
        return new Now(s.minute, s.cell, s.height, p, t, s.minute, s.in, s.used, s.lost);
    }

    private Now begun(Now s, int p, int t) {
        List<List<Boolean>> used = new ArrayList<>(s.used);
        List<Boolean> his = new ArrayList<>(used.get(p));
        his.set(t, true);
        used.set(p, his);
        return new Now(s.minute, s.cell, s.height, p, t, s.minute, s.in, used, s.lost);
    }

    private void does(Now next) {
        undo.add(now);
        if (undo.size() > 10) undo.remove(0);
        now = next;
    }

    int begins(int p, int t) {
        if (noPerson(p) || noThought(t)) return -1;
        if (!now.in.get(p) || now.used.get(p).get(t) || now.lost) return -2;
        does(begun(now, p, t));
        return hold(now);
    }

    int minutes(int n) {
        if (n < 1 || n > 9) return -1;
        if (now.minute + n > 99) return -2;
        does(minutesOf(now, n));
        return now.cell;
    }

    private int seat(int p, boolean in) {
        if (noPerson(p)) return -1;
        if (now.in.get(p) == in || now.height > 0 || now.lost) return -2;
        List<Boolean> all = new ArrayList<>(now.in);
        all.set(p, in);
        boolean out = !in && now.who == p;
        does(new Now(now.minute, now.cell, now.height, out ? -9 : now.who, out ? -9 : now.what, now.since, all,
                now.used, now.lost));
        return (int) all.stream().filter(x -> x).count();
    }

    int enters(int p) {
        return seat(p, true);
    }

    int leaves(int p) {
        return seat(p, false);
    }

    int undo() {
        if (undo.isEmpty()) return -2;
        now = undo.remove(undo.size() - 1);
        return undo.size();
    }

    int now(int what) {
        return switch (what) {
            case 0 -> now.minute;
            case 1 -> now.cell;
            case 2 -> now.height;
            case 3 -> now.who;
            case 4 -> now.what;
            case 5 -> hold(now);
            case 6 -> weights(now);
            case 7 -> now.lost ? 1 : 0;
            case 8 -> cover();
            default -> -1;
        };
    }

    private int cover() {
        for (int size = 0; size <= thoughts.size(); size++) {
            for (int set = 0; set < 16 >> (4 - thoughts.size()); set++) {
                if (Integer.bitCount(set) != size) continue;
                boolean all = true;
                for (int p = 0; p < people.size(); p++) {
                    boolean lifted = false;
                    for (int t = 0; t < thoughts.size(); t++) {
                        lifted |= (set & 1 << t) != 0 && thoughts.get(t).lift > people.get(p).weight;
                    }
                    all &= lifted;
                }
                if (all) return set;
            }
        }
        return -9;
    }

    // ---- what could be

    int after(int n, int what) {
        if (n < 0 || n > 30 || what < 0 || what > 1) return -1;
        Now then = minutesOf(now, n);
        return what == 0 ? then.cell : then.height;
    }

    int down() {
        for (int m = 1; m <= 60; m++) {
            Now then = minutesOf(now, m);
            if (then.lost) return -9;
            if (then.height == 0) return m;
        }
        return -9;
    }

    /** All rows in their order, each the choices and the state behind them. */
    private void rows(Now s, List<Integer> row, int n, List<List<Integer>> rows, List<Now> ends) {
        if (row.size() == n) {
            rows.add(row);
            ends.add(s);
            return;
        }
        for (int choice = -1; choice < 12; choice++) {
            Now next = s;
            if (choice >= 0) {
                int p = choice / 4;
                int t = choice % 4;
                if (noPerson(p) || noThought(t) || !s.in.get(p) || s.used.get(p).get(t)) continue;
                next = begun(s, p, t);
            }
            List<Integer> longer = new ArrayList<>(row);
            longer.add(choice == -1 ? -9 : choice);
            rows(minute(next), longer, n, rows, ends);
        }
    }

    int best(int n, int what, int k) {
        if (n < 0 || n > 4 || what < 0 || what > 1 || k < -1 || k > 3) return -1;
        List<List<Integer>> rows = new ArrayList<>();
        List<Now> ends = new ArrayList<>();
        rows(now, List.of(), n, rows, ends);
        int best = 0;
        for (int i = 1; i < ends.size(); i++) {
            if (value(ends.get(i), what) > value(ends.get(best), what)) best = i;
        }
        if (k == -1) return value(ends.get(best), what);
        return k < n ? rows.get(best).get(k) : -9;
    }

    private static int value(Now s, int what) {
        return what == 0 ? s.cell : s.height;
    }

    private void ways(List<Integer> way, List<List<Integer>> ways) {
        int p = way.size();
        if (p == people.size()) {
            ways.add(way);
            return;
        }
        for (int t = 0; t <= thoughts.size(); t++) {
            boolean none = t == thoughts.size();
            if (!none && (way.contains(t) || thoughts.get(t).lift <= people.get(p).weight)) continue;
            List<Integer> longer = new ArrayList<>(way);
            longer.add(none ? -9 : t);
            ways(longer, ways);
        }
    }

    int own(int p) {
        if (p != -1 && noPerson(p)) return -1;
        List<List<Integer>> ways = new ArrayList<>();
        ways(List.of(), ways);
        int most = -1;
        List<Integer> first = null;
        for (List<Integer> way : ways) {
            int number = (int) way.stream().filter(t -> t >= 0).count();
            if (number > most) {
                most = number;
                first = way;
            }
        }
        return p == -1 ? most : first.get(p);
    }

    private long ways(int cell, int wind, int n, int x, int to) {
        if (cell < 0 || cell > 40) return 0;
        if (n == 0) return cell == to ? 1 : 0;
        return (10 - x) * ways(cell + wind, wind, n - 1, x, to) + x * ways(cell - wind, wind, n - 1, x, to);
    }

    int odds(int h, int cell, int n, int x, int what) {
        if (h < 1 || h > 9 || cell < 0 || cell > 40 || n < 0 || n > 6 || x < 0 || x > 10) return -1;
        if (what < 0 || what > 1) return -1;
        long upper = ways(now.cell, wind(h), n, x, cell);
        long lower = Math.round(Math.pow(10, n));
        if (upper == 0) return what;
        for (int d : new int[] {2, 5}) {
            while (upper % d == 0 && lower % d == 0) {
                upper /= d;
                lower /= d;
            }
        }
        return (int) (what == 0 ? upper : lower);
    }

    // ---- what was seen, heard

    int saw(int p, int m, int h) {
        if (noPerson(p) || m < 1 || m > 9 || h < 0 || h > 9) return -1;
        if (seen.size() == 6) return -3;
        seen.add(new Report(p, m, h));
        return seen.size();
    }

    int which(int p) {
        if (noPerson(p)) return -1;
        List<Boolean> fit = new ArrayList<>();
        for (int t = 0; t < thoughts.size(); t++) {
            Now s = thinking(now, p, t);
            fit.add(seen.stream().allMatch(r -> r.person != p || minutesOf(s, r.minute).height == r.value));
        }
        return bits(fit);
    }

    int look(int p) {
        int fit = which(p);
        if (fit <= 0) return fit == 0 ? -9 : -1;
        int best = 0;
        long least = 100;
        for (int m = 1; m <= 9; m++) {
            Map<Integer, Integer> alike = new HashMap<>();
            for (int t = 0; t < thoughts.size(); t++) {
                if ((fit & 1 << t) != 0) alike.merge(minutesOf(thinking(now, p, t), m).height, 1, Integer::sum);
            }
            int greatest = alike.values().stream().max(Integer::compare).get();
            if (greatest < least) {
                least = greatest;
                best = m;
            }
        }
        return best;
    }

    int hears(int m, int v) {
        if (m < 0 || m > 9 || v < 0 || v > 30) return -1;
        if (heard.size() == 6) return -3;
        heard.add(new Report(-1, m, v));
        return heard.size();
    }

    int laws(int what) {
        if (what < 0 || what > 1) return -1;
        List<Integer> laws = new ArrayList<>();
        for (int code = 10; code <= 305; code++) {
            int lift = code / 10;
            int fade = code % 10;
            if (fade <= 5 && heard.stream().allMatch(r -> Math.max(lift - r.minute * fade, 0) == r.value)) {
                laws.add(code);
            }
        }
        if (what == 0) return laws.size();
        return laws.isEmpty() ? -9 : laws.get(0);
    }

    int forget() {
        int both = seen.size() + heard.size();
        seen.clear();
        heard.clear();
        return both;
    }

    // ---- kinds, images

    int mark(int kind, int p) {
        if (kind < 0 || kind > 5 || noPerson(p)) return -1000000;
        int[] bracket = {1, 10, 100, 1000, 10000, 100000};
        int[] above = {-1, 0, 0, 1, 2, 0};
        trace += bracket[kind];
        int up = kind == 0 ? 0 : mark(above[kind], p);
        return switch (kind) {
            case 0 -> people.get(p).weight;
            case 1 -> up + (int) now.used.get(p).stream().filter(x -> x).count();
            case 2 -> up - hold(now);
            case 3 -> up * 2;
            case 4 -> up + p;
            default -> up + now.height;
        };
    }

    int keep(int image) {
        if (image != 0 && image != 1) return -1;
        images.put(image, new Kept(now, List.copyOf(undo)));
        return now.minute;
    }

    int back(int image) {
        if (image != 0 && image != 1) return -1;
        if (!images.containsKey(image)) return -2;
        now = images.get(image).now;
        undo = new ArrayList<>(images.get(image).undo);
        return now.minute;
    }

    int count(int what) {
        return switch (what) {
            case 0 -> people.size();
            case 1 -> thoughts.size();
            case 2 -> start;
            case 3 -> seen.size();
            case 4 -> heard.size();
            case 5 -> undo.size();
            case 6 -> text.length();
            default -> -1;
        };
    }

    long trace() {
        return trace;
    }
}
