import java.util.ArrayDeque;
import java.util.ArrayList;
import java.util.HashSet;
import java.util.List;
import java.util.Set;
import java.util.regex.Matcher;
import java.util.regex.Pattern;

/**
 * A second program for the same document, made in the slowest and most literal way (years one by one,
 * all orders, all ways, all sums), to be held against NoBetweens. It knows no ranges of arguments
 * that ModelTest does not ask.
 */
final class Model {
    private static final Pattern TOKEN = Pattern.compile("[0-9]+|[^ ]");

    private static final class Now {
        int year = 0;
        int jumps = 0;
        final List<int[]> values = new ArrayList<>();
        final List<int[]> laws = new ArrayList<>();

        Now copy() {
            Now other = new Now();
            other.year = year;
            other.jumps = jumps;
            for (int[] v : values) {
                other.values.add(v.clone());
            }
            for (int[] w : laws) {
                other.laws.add(w.clone());
            }
            return other;
        }
    }

    private String text = "";
    private Now now = new Now();
    private List<Integer> ranges = new ArrayList<>();
    private List<int[]> steps = new ArrayList<>();
    private List<Integer> spots = new ArrayList<>();
    private int drawer = 2;
    private final ArrayDeque<Now> past = new ArrayDeque<>();
    private final Now[] images = new Now[2];
    private final List<int[]> planned = new ArrayList<>();
    private final List<int[]> told = new ArrayList<>();
    private long trace = 0;

    private boolean noScale(int s) {
        return s < 0 || s >= ranges.size();
    }

    private boolean noLife(int l) {
        return l < 0 || l >= steps.size();
    }

    private boolean noPlace(int p) {
        return p < 0 || p >= spots.size();
    }

    private static boolean out(int x, int a, int b) {
        return x < a || x > b;
    }

    int type(int letter) {
        if (out(letter, 0, 255)) {
            return -1;
        }
        if (text.length() == 200) {
            return -3;
        }
        text += (char) letter;
        return text.length();
    }

    int clear() {
        int had = text.length();
        text = "";
        return had;
    }

    // ---- the text: tokens to a list, then one walk over them

    private static final class Fault extends Exception {
        final int place;

        Fault(int place) {
            this.place = place;
        }
    }

    private List<String> words;
    private List<Integer> places;
    private int next;

    private int number(int least, int most) throws Fault {
        String word = next < words.size() ? words.get(next) : "";
        boolean fine = word.matches("0|[1-9][0-9]?") && !out(Integer.parseInt(word), least, most);
        if (!fine) {
            throw new Fault(places.get(next));
        }
        next++;
        return Integer.parseInt(word);
    }

    private void demand(boolean fine) throws Fault {
        if (!fine) {
            throw new Fault(places.get(next));
        }
        next++;
    }

    int land() {
        words = new ArrayList<>();
        places = new ArrayList<>();
        next = 0;
        Matcher m = TOKEN.matcher(text.replace('\n', '\t').replace('\r', '\t').replace((char) 133, '\t'));
        while (m.find()) {
            words.add(m.group());
            places.add(m.start());
        }
        places.add(text.length());
        try {
            return readAll();
        } catch (Fault f) {
            return -10 - f.place;
        }
    }

    private int readAll() throws Fault {
        Now then = new Now();
        List<Integer> newRanges = new ArrayList<>();
        List<int[]> newSteps = new ArrayList<>();
        List<Integer> newSpots = new ArrayList<>();
        int newDrawer = -1;
        int items = 0;
        while (next < words.size()) {
            String word = words.get(next);
            if (word.equals("s")) {
                demand(newSteps.isEmpty() && newRanges.size() < 4);
                int law = number(0, 3);
                int range = number(2, 30);
                then.laws.add(new int[] {law, number(1, range)});
                newRanges.add(range);
            } else if (word.equals("l")) {
                demand(newSteps.size() < 4);
                int[] v = new int[newRanges.size()];
                int[] d = new int[newRanges.size()];
                for (int s = 0; s < v.length; s++) {
                    v[s] = number(0, newRanges.get(s));
                    d[s] = number(0, 6) - 3;
                }
                then.values.add(v);
                newSteps.add(d);
            } else if (word.equals("d")) {
                demand(newDrawer < 0);
                newDrawer = number(0, 9);
            } else {
                demand(word.equals("p") && newSpots.size() < 8);
                newSpots.add(number(0, 60));
            }
            demand(next < words.size() && words.get(next).equals(";"));
            items++;
        }
        now = then;
        ranges = newRanges;
        steps = newSteps;
        spots = newSpots;
        drawer = newDrawer < 0 ? 2 : newDrawer;
        past.clear();
        planned.clear();
        told.clear();
        images[0] = null;
        images[1] = null;
        text = "";
        return items;
    }

    // ---- ends

    private static int endBy(int[] law, int range, int value) {
        switch (law[0]) {
            case 0:
                return value < law[1] ? 0 : 1;
            case 1:
                return value == 0 ? 0 : value == range ? 1 : 3;
            case 2:
                return value == 0 ? 0 : value == range ? 1 : 2;
            default:
                return value + value < range ? 0 : value + value > range ? 1 : 2;
        }
    }

    private int endIn(Now then, int l, int s) {
        return endBy(then.laws.get(s), ranges.get(s), then.values.get(l)[s]);
    }

    private static int move(int value, int by, int range) {
        int to = value + by;
        if (to < 0) {
            return 0;
        }
        return to > range ? range : to;
    }

    private void goYear(Now then) {
        for (int l = 0; l < steps.size(); l++) {
            for (int s = 0; s < ranges.size(); s++) {
                int was = endIn(then, l, s);
                int[] v = then.values.get(l);
                v[s] = move(v[s], steps.get(l)[s], ranges.get(s));
                if (endIn(then, l, s) != was) {
                    then.jumps++;
                }
            }
        }
        then.year++;
    }

    private Now later(int n) {
        Now then = now.copy();
        for (int i = 0; i < n; i++) {
            goYear(then);
        }
        return then;
    }

    private int unlawfulScale(Now then, int l) {
        for (int s = 0; s < ranges.size(); s++) {
            if (endIn(then, l, s) == 3) {
                return s;
            }
        }
        return -9;
    }

    private int unlawfulBits(Now then) {
        int bits = 0;
        for (int l = 0; l < steps.size(); l++) {
            if (unlawfulScale(then, l) != -9) {
                bits += 1 << l;
            }
        }
        return bits;
    }

    int scale(int s, int what) {
        if (noScale(s) || out(what, 0, 2)) {
            return -1;
        }
        return what == 1 ? ranges.get(s) : now.laws.get(s)[what / 2];
    }

    int life(int l, int s, int what) {
        if (noLife(l) || noScale(s) || out(what, 0, 2)) {
            return -1;
        }
        int[] three = {now.values.get(l)[s], steps.get(l)[s] + 3, endIn(now, l, s)};
        return three[what];
    }

    int end(int s, int value) {
        return noScale(s) || out(value, 0, ranges.get(s)) ? -1 : endBy(now.laws.get(s), ranges.get(s), value);
    }

    int place(int p) {
        return noPlace(p) ? -1 : spots.get(p);
    }

    private void remember() {
        past.push(now.copy());
        if (past.size() > 10) {
            past.removeLast();
        }
    }

    int passes(int n) {
        if (out(n, 1, 30)) {
            return -1;
        }
        if (now.year + n > 99) {
            return -2;
        }
        remember();
        now = later(n);
        return now.year;
    }

    int changes(int l, int s, int by) {
        if (noLife(l) || noScale(s) || out(by, -9, 9)) {
            return -1;
        }
        remember();
        int[] v = now.values.get(l);
        v[s] = move(v[s], by, ranges.get(s));
        return v[s];
    }

    private boolean noLaw(int s, int law, int t) {
        return noScale(s) || out(law, 0, 3) || out(t, 1, ranges.get(s));
    }

    int law(int s, int law, int t) {
        if (noLaw(s, law, t)) {
            return -1;
        }
        remember();
        now.laws.set(s, new int[] {law, t});
        return Integer.bitCount(unlawfulBits(now));
    }

    int undo() {
        if (past.isEmpty()) {
            return -2;
        }
        now = past.pop();
        return past.size();
    }

    private int ends(int l, int end) {
        int n = 0;
        for (int s = 0; s < ranges.size(); s++) {
            n += endIn(now, l, s) == end ? 1 : 0;
        }
        return n;
    }

    int now(int what) {
        int in = 0;
        for (int l = 0; l < steps.size(); l++) {
            in += ends(l, 2);
        }
        int[] six = {now.year, unlawfulBits(now), in, in > drawer ? 1 : 0, now.jumps, past.size()};
        return out(what, 0, 5) ? -1 : six[what];
    }

    int behind(int n, int l, int s) {
        return out(n, 0, 60) || noLife(l) || noScale(s) ? -1 : endIn(later(n), l, s);
    }

    int first(int l, int what) {
        if (noLife(l) || out(what, 0, 1)) {
            return -1;
        }
        for (int n = 0; n <= 60; n++) {
            int s = unlawfulScale(later(n), l);
            if (s != -9) {
                return what == 0 ? n : s;
            }
        }
        return -9;
    }

    private int weigh() {
        int sum = 0;
        for (int n = 0; n <= 20; n++) {
            sum += Integer.bitCount(unlawfulBits(later(n)));
        }
        return sum;
    }

    int freed(int s, int law, int t) {
        if (noLaw(s, law, t)) {
            return -1000000;
        }
        int was = weigh();
        int[] old = now.laws.set(s, new int[] {law, t});
        int then = weigh();
        now.laws.set(s, old);
        return was - then;
    }

    int bestJump(int s, int what) {
        if (noScale(s) || out(what, 0, 1)) {
            return -1;
        }
        int[] best = null;
        int[] old = now.laws.get(s);
        for (int t = ranges.get(s); t >= 1; t--) {
            now.laws.set(s, new int[] {0, t});
            int come = 0;
            for (int n = 0; n < 20; n++) {
                for (int l = 0; l < steps.size(); l++) {
                    come += endIn(later(n), l, s) == endIn(later(n + 1), l, s) ? 0 : 1;
                }
            }
            if (best == null || come <= best[1]) {
                best = new int[] {t, come};
            }
        }
        now.laws.set(s, old);
        return best[what];
    }

    int plans(int s, int by) {
        if (noScale(s) || out(by, -9, 9)) {
            return -1;
        }
        if (planned.size() == 5) {
            return -3;
        }
        planned.add(new int[] {s, by});
        return planned.size();
    }

    int drop() {
        int had = planned.size();
        planned.clear();
        return had;
    }

    /** All lawful orders of the changes not yet done, the first by numbers first. */
    private void findOrders(Now then, int l, List<Integer> done, int without, List<List<Integer>> found) {
        boolean whole = true;
        for (int i = 0; i < planned.size(); i++) {
            if (i == without || done.contains(i)) {
                continue;
            }
            whole = false;
            Now other = then.copy();
            int s = planned.get(i)[0];
            int[] v = other.values.get(l);
            v[s] = move(v[s], planned.get(i)[1], ranges.get(s));
            if (unlawfulScale(other, l) == -9) {
                List<Integer> more = new ArrayList<>(done);
                more.add(i);
                findOrders(other, l, more, without, found);
            }
        }
        if (whole) {
            found.add(done);
        }
    }

    private List<List<Integer>> allOrders(int l, int without) {
        List<List<Integer>> found = new ArrayList<>();
        findOrders(now, l, new ArrayList<>(), without, found);
        return found;
    }

    int orders(int l, int i) {
        if (noLife(l) || i < -1) {
            return -1;
        }
        List<List<Integer>> found = allOrders(l, -1);
        if (i == -1) {
            return found.size();
        }
        if (found.isEmpty()) {
            return -9;
        }
        return i < found.get(0).size() ? found.get(0).get(i) : -5;
    }

    int bars(int l) {
        if (noLife(l)) {
            return -1;
        }
        if (allOrders(l, -1).isEmpty()) {
            for (int k = 0; k < planned.size(); k++) {
                if (!allOrders(l, k).isEmpty()) {
                    return k;
                }
            }
        }
        return -9;
    }

    /** The fewest jumps by ways that come to no place twice. */
    private int fewest(int s, int from, int to, Set<Integer> been) {
        if (from == to) {
            return 0;
        }
        int best = 1000;
        for (int p = 0; p < spots.size(); p++) {
            if (!been.contains(p) && reaches(s, from, p)) {
                Set<Integer> more = new HashSet<>(been);
                more.add(p);
                best = Math.min(best, 1 + fewest(s, p, to, more));
            }
        }
        return best;
    }

    private boolean reaches(int s, int a, int b) {
        int far = Math.max(spots.get(a), spots.get(b)) - Math.min(spots.get(a), spots.get(b));
        return far <= ranges.get(s) && endBy(now.laws.get(s), ranges.get(s), far) != 3;
    }

    int trip(int s, int from, int to, int what) {
        if (noScale(s) || noPlace(from) || noPlace(to) || out(what, 0, 1)) {
            return -1;
        }
        int best = fewest(s, from, to, Set.of(from));
        if (best >= 1000) {
            return -9;
        }
        if (what == 0) {
            return best;
        }
        for (int p = 0; p < spots.size() && from != to; p++) {
            if (reaches(s, from, p) && fewest(s, p, to, Set.of(p)) == best - 1) {
                return p;
            }
        }
        return -9;
    }

    int parts(int s, int load, int what) {
        if (noScale(s) || out(load, 1, 99) || out(what, 0, 1)) {
            return -1;
        }
        Set<Integer> made = Set.of(0);
        for (int n = 1; n <= load; n++) {
            Set<Integer> more = new HashSet<>();
            int greatest = 0;
            for (int part = 1; part <= ranges.get(s); part++) {
                if (endBy(now.laws.get(s), ranges.get(s), part) == 3) {
                    continue;
                }
                for (int m : made) {
                    more.add(m + part);
                }
                if (made.contains(load - part)) {
                    greatest = part;
                }
            }
            if (greatest > 0) {
                return what == 0 ? n : greatest;
            }
            made = more;
        }
        return -9;
    }

    int books(int s, int year, int end) {
        if (noScale(s) || out(year, 0, 60) || out(end, 0, 3)) {
            return -1;
        }
        if (told.size() == 6) {
            return -3;
        }
        told.add(new int[] {s, year, end});
        return told.size();
    }

    int burn() {
        int had = told.size();
        told.clear();
        return had;
    }

    /** What ends in YEARS 0 .. 60 each pair has that agrees. */
    private List<int[]> agreeing(int s) {
        List<int[]> all = new ArrayList<>();
        for (int value = 0; value <= ranges.get(s); value++) {
            for (int step = -3; step <= 3; step++) {
                int[] ends = new int[61];
                int v = value;
                for (int year = 0; year <= 60; year++) {
                    ends[year] = endBy(now.laws.get(s), ranges.get(s), v);
                    v = move(v, step, ranges.get(s));
                }
                boolean fine = true;
                for (int[] t : told) {
                    fine &= t[0] != s || ends[t[1]] == t[2];
                }
                if (fine) {
                    all.add(ends);
                }
            }
        }
        return all;
    }

    int fits(int s) {
        return noScale(s) ? -1 : agreeing(s).size();
    }

    int sure(int s, int year) {
        if (noScale(s) || out(year, 0, 60)) {
            return -1;
        }
        Set<Integer> then = new HashSet<>();
        for (int[] ends : agreeing(s)) {
            then.add(ends[year]);
        }
        return then.isEmpty() ? -9 : then.size() > 1 ? -5 : then.iterator().next();
    }

    int clash() {
        for (int pair = 0; pair <= 33; pair++) {
            int a = pair / 10;
            int b = pair % 10;
            if (a >= b || noScale(b) || !ranges.get(a).equals(ranges.get(b))) {
                continue;
            }
            for (int v = 0; v <= ranges.get(a); v++) {
                if (end(a, v) + end(b, v) == 1) {
                    return pair;
                }
            }
        }
        return -9;
    }

    private static final int[] ABOVE = {-1, 0, 0, 1, 2, 0};
    private static final int[] ADDED = {1, 10, 100, 1000, 10000, 100000};

    private int rates(int kind, int l) {
        trace += ADDED[kind];
        int up = kind == 0 ? 0 : rates(ABOVE[kind], l);
        switch (kind) {
            case 1:
                return up + ends(l, 1);
            case 2:
                return up - ends(l, 2);
            case 3:
                return 2 * up;
            case 4:
                return up + l;
            case 5:
                return up + drawer;
            default:
                int sum = 0;
                for (int v : now.values.get(l)) {
                    sum += v;
                }
                return sum;
        }
    }

    int rate(int kind, int l) {
        return out(kind, 0, 5) || noLife(l) ? -1000000 : rates(kind, l);
    }

    int keep(int image) {
        if (out(image, 0, 1)) {
            return -1;
        }
        images[image] = now.copy();
        return now.year;
    }

    int back(int image) {
        if (out(image, 0, 1)) {
            return -1;
        }
        if (images[image] == null) {
            return -2;
        }
        now = images[image].copy();
        past.clear();
        return now.year;
    }

    int count(int what) {
        int[] seven = {ranges.size(), steps.size(), spots.size(), planned.size(), told.size(), text.length(), drawer};
        return out(what, 0, 6) ? -1 : seven[what];
    }

    long trace() {
        return trace;
    }
}
