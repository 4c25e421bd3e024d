/** What can be asked whole: every LAW with every RANGE and t, and texts made of TOKENS by chance, on NoBetweens and on the Model. */
public final class SweepTest {
    private static final Dues D = new Dues("SweepTest");
    private static final int TEXTS = 30000;
    private static final String[] WORDS = {"s", "l", "d", "p", ";", "0", "1", "2", "3", "6", "9", "30", "31", "60", "99",
        "100", "00", "07", " ", "  ", "x"};

    private final NoBetweens x = new NoBetweens();
    private final Model m = new Model();

    public static void main(String[] args) {
        for (int law = 0; law <= 3; law++) {
            for (int range = 2; range <= 30; range++) {
                for (int t = 1; t <= (law == 0 ? range : 1); t++) {
                    new SweepTest().scale(law, range, t);
                }
            }
        }
        Chance chance = new Chance(20);
        for (int i = 0; i < TEXTS; i++) {
            new SweepTest().reads(text(chance), "land()");
        }
        D.close();
    }

    private void due(int promise, String call, long got, long want) {
        D.due(promise, call, got, want);
    }

    private void types(String text) {
        for (int i = 0; i < text.length(); i++) {
            x.type(text.charAt(i));
            m.type(text.charAt(i));
        }
    }

    private void reads(String text, String call) {
        types(text);
        due(4, call + " of '" + text + "'", x.land(), m.land());
        for (int what = 0; what <= 6; what++) {
            due(32, "count(" + what + ") behind '" + text + "'", x.count(what), m.count(what));
        }
        for (int p = 0; p < m.count(2); p++) {
            due(8, "place(" + p + ") behind '" + text + "'", x.place(p), m.place(p));
        }
        for (int at = 0; at < 3 * m.count(0); at++) {
            due(5, "scale(" + at / 3 + ", " + at % 3 + ") behind '" + text + "'", x.scale(at / 3, at % 3), m.scale(at / 3, at % 3));
            for (int l = 0; l < m.count(1); l++) {
                due(6, "life(" + l + ", " + at / 3 + ", " + at % 3 + ") behind '" + text + "'",
                    x.life(l, at / 3, at % 3), m.life(l, at / 3, at % 3));
            }
        }
    }

    /** Also two SCALES of the like RANGE beside it, by which it may clash. */
    private void scale(int law, int range, int t) {
        String told = "s" + law + " " + range + " " + t + ";s0 " + range + " 2;s3 " + range + " 1;l" + range / 2 + " 4 0 5 1 6;";
        reads(told, "land()");
        for (int value = -1; value <= range + 1; value++) {
            due(7, "end(0, " + value + ") by '" + told + "'", x.end(0, value), m.end(0, value));
        }
        for (int load = 1; load <= 99; load += range > 6 ? 7 : 1) {
            due(23, "parts(0, " + load + ", 0) by '" + told + "'", x.parts(0, load, 0), m.parts(0, load, 0));
            due(23, "parts(0, " + load + ", 1) by '" + told + "'", x.parts(0, load, 1), m.parts(0, load, 1));
        }
        due(28, "clash() by '" + told + "'", x.clash(), m.clash());
        for (int by = 0; by <= 3; by++) {
            due(16, "freed(0, " + by + ", 1) by '" + told + "'", x.freed(0, by, 1), m.freed(0, by, 1));
        }
        for (int s = 0; s <= 2; s++) {
            due(17, "bestJump(" + s + ", 0) by '" + told + "'", x.bestJump(s, 0), m.bestJump(s, 0));
            due(17, "bestJump(" + s + ", 1) by '" + told + "'", x.bestJump(s, 1), m.bestJump(s, 1));
        }
        booksOf(told);
    }

    private void booksOf(String told) {
        for (int end = 0; end <= 3; end++) {
            for (int year = 0; year <= 60; year += 4) {
                due(24, "books(0, " + year + ", " + end + ")", x.books(0, year, end), m.books(0, year, end));
                due(26, "fits(0) by '" + told + "'", x.fits(0), m.fits(0));
                due(27, "sure(0, 3) by '" + told + "'", x.sure(0, 3), m.sure(0, 3));
                due(27, "sure(0, 60) by '" + told + "'", x.sure(0, 60), m.sure(0, 60));
                due(25, "burn()", x.burn(), m.burn());
            }
        }
    }

    /** Mostly what may stand next, at times any TOKEN, so that FAULTS come at every place. */
    private static String text(Chance chance) {
        StringBuilder b = new StringBuilder();
        int[] left = {4, 4, 1, 8};
        int most = chance.pick(0, 220);
        while (b.length() < most) {
            int kind = chance.pick(0, 3);
            boolean oneTooMany = kind == 0 && left[1] < 4 || left[kind] == 0;
            if (oneTooMany && chance.pick(0, 300) > 0) {
                continue;
            }
            left[kind] = Math.max(0, left[kind] - 1);
            b.append(WORDS[kind]);
            numbers(b, kind, kind == 0 ? 3 : kind == 1 ? 2 * (4 - left[0]) : 1, chance);
            b.append(chance.pick(0, 60) == 0 ? any(chance) : ";");
            if (left[0] + left[1] + left[2] + left[3] == 0) {
                break;
            }
        }
        b.setLength(Math.min(b.length(), 200));
        return b.toString();
    }

    private static void numbers(StringBuilder b, int kind, int many, Chance chance) {
        for (int i = 0; i < many; i++) {
            int number = kind == 0 && i == 1 ? chance.pick(3, 30) : chance.pick(0, 3) + (kind == 0 && i == 2 ? 1 : 0);
            b.append(chance.pick(0, 200) == 0 ? any(chance) : "" + Math.min(number, 3 + 27 * (i % 2)));
            b.append(i < many - 1 || chance.pick(0, 5) == 0 ? " " : "");
        }
    }

    private static String any(Chance chance) {
        return WORDS[chance.pick(0, WORDS.length - 1)];
    }

    /** Numbers that are the same in every run. */
    private static final class Chance {
        private long seed;

        Chance(long seed) {
            this.seed = seed;
        }

        int pick(int least, int most) {
            seed = seed * 6364136223846793005L + 1442695040888963407L;
            return least + (int) ((seed >>> 33) % (most - least + 1));
        }
    }
}
