/** All promises: long runs of calls, the same on NoBetweens and on the Model, must have the same answers. */
public final class ModelTest {
    private static final Dues D = new Dues("ModelTest");
    private static final int RUNS = 400;

    private long seed;
    private NoBetweens x;
    private Model m;

    private ModelTest(long seed) {
        this.seed = seed;
        x = new NoBetweens();
        m = new Model();
    }

    public static void main(String[] args) {
        for (int run = 1; run <= RUNS; run++) {
            new ModelTest(run * 7919L).calls();
        }
        D.close();
    }

    private int pick(int least, int most) {
        seed = seed * 6364136223846793005L + 1442695040888963407L;
        return least + (int) ((seed >>> 33) % (most - least + 1));
    }

    /** Mostly within, at times one beyond, seldom far beyond. */
    private int near(int least, int most) {
        int way = pick(0, 59);
        if (way == 0) {
            return Integer.MIN_VALUE;
        }
        if (way == 1) {
            return Integer.MAX_VALUE;
        }
        return way < 6 ? pick(least - 1, most + 1) : pick(least, most);
    }

    private void calls() {
        int left = 512;
        left -= tells(pick(1, 4));
        while (left > 0) {
            if (left > 210 && pick(0, 60) == 0) {
                left -= tells(pick(0, 5));
            } else {
                call(pick(0, 31));
                left--;
            }
        }
    }

    /** Types a text, at times a faulty one, has it read, and gives the number of calls. */
    private int tells(int most) {
        StringBuilder text = new StringBuilder();
        int scales = pick(0, 4);
        int[] ranges = new int[scales];
        for (int s = 0; s < scales; s++) {
            ranges[s] = pick(0, 2) == 0 ? 6 : pick(2, pick(0, 1) == 0 ? 8 : 30);
            text.append("s").append(pick(0, 3)).append(' ').append(ranges[s]).append(' ').append(pick(1, ranges[s])).append(';');
        }
        for (int l = pick(0, most); l > 0; l--) {
            text.append("l");
            for (int s = 0; s < scales; s++) {
                int v = pick(0, 2) == 0 ? pick(0, ranges[s]) : pick(0, 1) * ranges[s];
                text.append(v).append(' ').append(pick(0, 6)).append(s < scales - 1 ? " " : "");
            }
            text.append(';');
        }
        for (int p = pick(0, 8); p > 0; p--) {
            text.append('p').append(pick(0, pick(0, 1) == 0 ? 60 : 20)).append(';');
        }
        if (pick(0, 1) == 0) {
            text.insert(0, "d" + pick(0, 9) + ";");
        }
        spoil(text);
        int typed = Math.min(text.length(), 200);
        for (int i = 0; i < typed; i++) {
            same("type", x.type(text.charAt(i)), m.type(text.charAt(i)));
        }
        same("land", x.land(), m.land());
        return typed + 1;
    }

    private void spoil(StringBuilder text) {
        String signs = "sldp;0123456789  ,S\t";
        for (int n = pick(0, 6) - 4; n > 0 && text.length() > 0; n--) {
            int at = pick(0, text.length() - 1);
            char sign = signs.charAt(pick(0, signs.length() - 1));
            int way = pick(0, 3);
            if (way == 0) {
                text.setCharAt(at, sign);
            } else if (way == 1) {
                text.insert(at, sign);
            } else if (way == 2) {
                text.deleteCharAt(at);
            } else {
                text.setLength(at);
            }
        }
    }

    private void same(String call, long got, long want) {
        D.due(0, call + " (by the model)", got, want);
    }

    private void call(int which) {
        int s = near(0, Math.max(0, m.count(0) - 1));
        int l = near(0, Math.max(0, m.count(1) - 1));
        int what = near(0, 1);
        int law = near(0, 3);
        int t = near(1, 6);
        int by = near(-9, 9);
        int n = near(0, 60);
        if (which < 13) {
            firstCalls(which, s, l, law, t, by, n);
        } else if (which < 22) {
            middleCalls(which, s, l, law, t, by, n, what);
        } else {
            lastCalls(which, s, l, n);
        }
    }

    private void firstCalls(int which, int s, int l, int law, int t, int by, int n) {
        int three = near(0, 2);
        switch (which) {
            case 0 -> same("type", x.type(n * 5), m.type(n * 5));
            case 1 -> same("clear", x.clear(), m.clear());
            case 2 -> sameNow();
            case 3 -> same("scale", x.scale(s, three), m.scale(s, three));
            case 4 -> same("life", x.life(l, s, three), m.life(l, s, three));
            case 5 -> same("end", x.end(s, t), m.end(s, t));
            case 6 -> same("place", x.place(t), m.place(t));
            case 7 -> same("passes", x.passes(t), m.passes(t));
            case 8, 9 -> same("changes", x.changes(l, s, by), m.changes(l, s, by));
            case 10 -> same("law", x.law(s, law, t), m.law(s, law, t));
            case 11 -> same("undo", x.undo(), m.undo());
            default -> sameNow();
        }
    }

    private void sameNow() {
        int six = near(0, 5);
        same("now", x.now(six), m.now(six));
    }

    private void middleCalls(int which, int s, int l, int law, int t, int by, int n, int what) {
        int i = near(-1, 5);
        switch (which) {
            case 13 -> same("behind", x.behind(n, l, s), m.behind(n, l, s));
            case 14 -> same("first", x.first(l, what), m.first(l, what));
            case 15 -> same("freed", x.freed(s, law, t), m.freed(s, law, t));
            case 16 -> same("bestJump", x.bestJump(s, what), m.bestJump(s, what));
            case 17 -> same("plans", x.plans(s, by), m.plans(s, by));
            case 18 -> empties(true);
            case 19, 20 -> same("orders", x.orders(l, i), m.orders(l, i));
            default -> same("bars", x.bars(l), m.bars(l));
        }
    }

    /** Seldom, so that what is planned and told can become much. */
    private void empties(boolean planned) {
        if (pick(0, 2) != 0) {
            return;
        }
        if (planned) {
            same("drop", x.drop(), m.drop());
        } else {
            same("burn", x.burn(), m.burn());
        }
    }

    private void lastCalls(int which, int s, int l, int n) {
        int from = near(0, Math.max(0, m.count(2) - 1));
        int to = near(0, Math.max(0, m.count(2) - 1));
        int what = near(0, 1);
        int load = near(1, 99);
        int end = near(0, 3);
        int kind = near(0, 6);
        switch (which) {
            case 22 -> same("trip", x.trip(s, from, to, what), m.trip(s, from, to, what));
            case 23 -> same("parts", x.parts(s, load, what), m.parts(s, load, what));
            case 24 -> same("books", x.books(s, n, end), m.books(s, n, end));
            case 25 -> empties(false);
            case 26 -> same("fits", x.fits(s), m.fits(s));
            case 27 -> same("sure", x.sure(s, n), m.sure(s, n));
            case 28 -> same("clash", x.clash(), m.clash());
            case 29 -> same("rate", x.rate(kind, l), m.rate(kind, l));
            case 30 -> sameImage(what);
            default -> {
                same("count", x.count(kind), m.count(kind));
                same("trace", x.trace(), m.trace());
            }
        }
    }

    private void sameImage(int image) {
        if (pick(0, 1) == 0) {
            same("keep", x.keep(image), m.keep(image));
        } else {
            same("back", x.back(image), m.back(image));
        }
    }
}
