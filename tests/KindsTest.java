/** Promises 29 to 33: kinds, the trace, images, counts. */
public final class KindsTest {
    private static final Dues D = new Dues("KindsTest");

    public static void main(String[] args) {
        rate();
        trace();
        keepAndBack();
        backChangesNothingElse();
        everyCallByFourOfEach();
        count();
        D.close();
    }

    private static void rate() {
        NoBetweens x = Dues.told("s2 6 1;s2 4 1;s0 9 5;s1 5 1;l3 3 4 3 7 3 5 3;l1 3 2 3 4 3 2 3;l0 3 0 3 0 3 0 3;d7;");
        // Life 0 is at both, high, high, high; life 1 at both, both, low, none.
        D.due(29, "rate(0, 0)", x.rate(0, 0), 19);
        D.due(29, "rate(1, 0)", x.rate(1, 0), 22);
        D.due(29, "rate(2, 0)", x.rate(2, 0), 18);
        D.due(29, "rate(3, 0)", x.rate(3, 0), 44);
        D.due(29, "rate(4, 0)", x.rate(4, 0), 18);
        D.due(29, "rate(5, 0)", x.rate(5, 0), 26);
        D.due(29, "rate(0, 1)", x.rate(0, 1), 9);
        D.due(29, "rate(1, 1)", x.rate(1, 1), 9);
        D.due(29, "rate(2, 1)", x.rate(2, 1), 7);
        D.due(29, "rate(3, 1)", x.rate(3, 1), 18);
        D.due(29, "rate(4, 1)", x.rate(4, 1), 8);
        D.due(29, "rate(4, 2)", x.rate(4, 2), 2);
        D.due(29, "rate(5, 2)", x.rate(5, 2), 7);
        D.due(29, "rate(6, 0)", x.rate(6, 0), NoBetweens.NO);
        D.due(29, "rate(-1, 0)", x.rate(-1, 0), NoBetweens.NO);
        D.due(29, "rate(0, 3)", x.rate(0, 3), NoBetweens.NO);
        D.due(29, "rate(0, -1)", x.rate(0, -1), NoBetweens.NO);
        x.passes(1);
        x.changes(0, 0, 3);
        D.due(29, "rate(3, 0) then", x.rate(3, 0), 52);
        x = Dues.told("l;");
        D.due(29, "rate(5, 0) of no scale", x.rate(5, 0), 2);
    }

    private static void traces(int kind, long by) {
        NoBetweens x = Dues.told("s0 5 1;l0 3;");
        x.rate(kind, 0);
        D.due(33, "trace() behind rate(" + kind + ", 0)", x.trace(), by);
        x.rate(kind, 0);
        D.due(33, "trace() behind another rate(" + kind + ", 0)", x.trace(), 2 * by);
    }

    private static void trace() {
        traces(0, 1);
        traces(1, 11);
        traces(2, 101);
        traces(3, 1011);
        traces(4, 10101);
        traces(5, 100001);
        NoBetweens x = Dues.told("s0 5 1;l0 3;");
        x.rate(6, 0);
        x.rate(0, 1);
        x.rate(-1, 0);
        D.due(33, "trace() behind BAD", x.trace(), 0);
        x.rate(1, 0);
        x.keep(0);
        x.changes(0, 0, 1);
        x.rate(0, 0);
        x.undo();
        D.due(33, "trace() behind undo()", x.trace(), 12);
        x.back(0);
        D.due(33, "trace() behind back()", x.trace(), 12);
        x.land();
        D.due(33, "trace() behind land()", x.trace(), 12);
        x = Dues.told("s0 5 1;l0 3;");
        for (int i = 0; i < 500; i++) {
            x.rate(5, 0);
        }
        D.due(33, "trace() of many", x.trace(), 50000500L);
    }

    private static void keepAndBack() {
        NoBetweens x = Dues.told("s1 6 2;s0 9 5;l0 6 4 4;l6 3 9 0;");
        D.due(30, "keep(2)", x.keep(2), NoBetweens.BAD);
        D.due(30, "keep(-1)", x.keep(-1), NoBetweens.BAD);
        D.due(31, "back(2)", x.back(2), NoBetweens.BAD);
        D.due(31, "back(-1)", x.back(-1), NoBetweens.BAD);
        D.due(31, "back(1)", x.back(1), NoBetweens.STATE);
        D.due(30, "keep(0)", x.keep(0), 0);
        x.passes(2);
        x.law(0, 0, 3);
        D.due(30, "keep(1)", x.keep(1), 2);
        D.due(30, "now(5), keep() is not undone", x.now(5), 2);
        D.due(31, "now(4) ahead", x.now(4), 4);
        x.passes(5);
        x.changes(1, 0, -9);
        x.law(1, 1, 1);
        D.due(31, "back(0)", x.back(0), 0);
        D.due(31, "now(0)", x.now(0), 0);
        D.due(31, "now(4)", x.now(4), 0);
        D.due(31, "now(5)", x.now(5), 0);
        D.due(31, "undo()", x.undo(), NoBetweens.STATE);
        D.due(31, "life(0, 1, 0)", x.life(0, 1, 0), 4);
        D.due(31, "life(1, 0, 0)", x.life(1, 0, 0), 6);
        D.due(31, "scale(0, 0)", x.scale(0, 0), 1);
        D.due(31, "scale(0, 2)", x.scale(0, 2), 2);
        D.due(31, "scale(1, 0)", x.scale(1, 0), 0);
        x.changes(0, 0, 5);
        D.due(31, "back(1)", x.back(1), 2);
        D.due(31, "now(4)", x.now(4), 4);
        D.due(31, "life(0, 0, 0)", x.life(0, 0, 0), 6);
        D.due(31, "scale(0, 0)", x.scale(0, 0), 0);
        D.due(31, "scale(0, 2)", x.scale(0, 2), 3);
        D.due(31, "back(1) again", x.back(1), 2);
        D.due(30, "keep(0) over the old one", x.keep(0), 2);
        x.passes(1);
        D.due(31, "back(0)", x.back(0), 2);
    }

    private static void backChangesNothingElse() {
        NoBetweens x = Dues.told("s1 6 2;l0 6;");
        x.keep(0);
        x.plans(0, 1);
        x.books(0, 1, 1);
        x.passes(1);
        x.undo();
        x.keep(1);
        x.passes(1);
        Dues.types(x, "p1");
        x.rate(1, 0);
        D.due(31, "back(0)", x.back(0), 0);
        D.due(31, "count(3)", x.count(3), 1);
        D.due(31, "count(4)", x.count(4), 1);
        D.due(31, "count(5)", x.count(5), 2);
        D.due(31, "trace()", x.trace(), 11);
        D.due(31, "life(0, 0, 0)", x.life(0, 0, 0), 0);
        D.due(31, "passes(1) behind it", x.passes(1), 1);
        D.due(31, "undo() behind it", x.undo(), 0);
        D.due(31, "back(1)", x.back(1), 0);
    }

    private static void everyCallByFourOfEach() {
        NoBetweens x = Dues.told("s1 6 2;s2 6 3;s3 6 1;s0 6 4;l0 6 3 3 3 3 2 3;l6 3 0 3 0 3 0 3;l0 3 1 4 0 3 0 3;l6 0 6 0 6 0 6 0;"
            + "p1;p7;p13;p19;p25;p31;p37;p43;");
        D.due(13, "now(1)", x.now(1), 0);
        D.due(13, "now(2)", x.now(2), 3);
        D.due(11, "law(3, 1, 1)", x.law(3, 1, 1), 1);
        D.due(15, "first(3, 0)", x.first(3, 0), 1);
        D.due(15, "first(3, 1)", x.first(3, 1), 0);
        D.due(15, "first(1, 0)", x.first(1, 0), NoBetweens.NONE);
        // Life 0 is then between in year 1 alone, life 3 in year 1 by scale 0 as well.
        D.due(16, "freed(3, 0, 1)", x.freed(3, 0, 1), 20);
        D.due(17, "bestJump(3, 1), life 3 falls", x.bestJump(3, 1), 1);
        D.due(17, "bestJump(3, 0)", x.bestJump(3, 0), 1);
        x.plans(3, 9);
        D.due(20, "orders(0, -1)", x.orders(0, -1), 1);
        D.due(20, "orders(3, -1)", x.orders(3, -1), 1);
        D.due(22, "trip(0, 0, 7, 0)", x.trip(0, 0, 7, 0), 7);
        D.due(22, "trip(0, 7, 0, 1)", x.trip(0, 7, 0, 1), 6);
        D.due(28, "clash()", x.clash(), NoBetweens.NONE);
        D.due(29, "rate(1, 3)", x.rate(1, 3), 28);
        D.due(9, "passes(1)", x.passes(1), 1);
        D.due(9, "now(4)", x.now(4), 5);
    }

    private static void count() {
        NoBetweens x = Dues.told("s1 6 2;s1 6 2;s1 6 2;l0 6 0 6 0 6;l0 6 0 6 0 6;p1;p2;p3;p4;d9;");
        x.plans(0, 1);
        x.plans(0, 1);
        x.plans(0, 1);
        x.plans(0, 1);
        x.plans(0, 1);
        x.books(0, 1, 1);
        Dues.types(x, "abcdef");
        D.due(32, "count(0)", x.count(0), 3);
        D.due(32, "count(1)", x.count(1), 2);
        D.due(32, "count(2)", x.count(2), 4);
        D.due(32, "count(3)", x.count(3), 5);
        D.due(32, "count(4)", x.count(4), 1);
        D.due(32, "count(5)", x.count(5), 6);
        D.due(32, "count(6)", x.count(6), 9);
        D.due(32, "count(7)", x.count(7), NoBetweens.BAD);
        D.due(32, "count(-1)", x.count(-1), NoBetweens.BAD);
        x.clear();
        Dues.reads(x, "d0;");
        D.due(32, "count(6), none", x.count(6), 0);
    }
}
