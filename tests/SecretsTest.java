/** Promises 18 to 28: orders of changes, trips, parts, books, clashes. */
public final class SecretsTest {
    private static final Dues D = new Dues("SecretsTest");

    public static void main(String[] args) {
        plans();
        drop();
        orders();
        ordersByAllScales();
        bars();
        trip();
        tripByTheLaw();
        parts();
        books();
        fits();
        sure();
        clash();
        D.close();
    }

    private static void plans() {
        NoBetweens x = Dues.told("s0 5 1;s1 5 1;");
        D.due(18, "plans(0, 10)", x.plans(0, 10), NoBetweens.BAD);
        D.due(18, "plans(0, -10)", x.plans(0, -10), NoBetweens.BAD);
        D.due(18, "plans(2, 1)", x.plans(2, 1), NoBetweens.BAD);
        D.due(18, "plans(-1, 1)", x.plans(-1, 1), NoBetweens.BAD);
        D.due(18, "plans(0, 9)", x.plans(0, 9), 1);
        D.due(18, "plans(1, -9)", x.plans(1, -9), 2);
        D.due(18, "plans(1, -9) again", x.plans(1, -9), 3);
        D.due(18, "plans(0, 0)", x.plans(0, 0), 4);
        D.due(18, "plans(0, 1)", x.plans(0, 1), 5);
        D.due(18, "plans(0, 1), the sixth", x.plans(0, 1), NoBetweens.FULL);
        D.due(18, "plans(2, 1), BAD first", x.plans(2, 1), NoBetweens.BAD);
        D.due(18, "count(3)", x.count(3), 5);
        D.due(18, "now(5)", x.now(5), 0);
    }

    private static void drop() {
        NoBetweens x = Dues.told("s1 5 1;l0 3;");
        D.due(19, "drop() of nothing", x.drop(), 0);
        x.plans(0, 1);
        x.plans(0, 2);
        D.due(19, "drop()", x.drop(), 2);
        D.due(19, "count(3)", x.count(3), 0);
        D.due(19, "plans(0, 5)", x.plans(0, 5), 1);
        D.due(19, "orders(0, -1)", x.orders(0, -1), 1);
    }

    private static void orders() {
        NoBetweens x = Dues.told("s1 6 1;s0 6 1;l3 3 0 3;l0 3 0 3;");
        D.due(20, "orders(0, -1) of nothing", x.orders(0, -1), 1);
        D.due(20, "orders(0, 0) of nothing", x.orders(0, 0), -5);
        x.plans(0, 3);
        x.plans(0, -6);
        // From 3: +3 is 6, -6 is 0; -6 is 0, +3 is 3. From 0: +3 is 3; -6 is 0, +3 is 3.
        D.due(20, "orders(0, -1)", x.orders(0, -1), 1);
        D.due(20, "orders(0, 0)", x.orders(0, 0), 0);
        D.due(20, "orders(0, 1)", x.orders(0, 1), 1);
        D.due(20, "orders(0, 2)", x.orders(0, 2), -5);
        D.due(20, "orders(1, -1)", x.orders(1, -1), 0);
        D.due(20, "orders(1, 0)", x.orders(1, 0), NoBetweens.NONE);
        D.due(20, "orders(1, 1)", x.orders(1, 1), NoBetweens.NONE);
        D.due(20, "orders(1, 2), no order that could be too short", x.orders(1, 2), NoBetweens.NONE);
        D.due(20, "orders(1, MAX)", x.orders(1, Integer.MAX_VALUE), NoBetweens.NONE);
        D.due(20, "orders(1, -2), BAD though there is no order", x.orders(1, -2), NoBetweens.BAD);
        x.plans(0, 9);
        // From 0: (2 0 1), (1 2 0) ends at 6, (2 1 0) at 3, (0 ..) begins at 3, (1 0 ..) at 3.
        D.due(20, "orders(1, -1)", x.orders(1, -1), 2);
        D.due(20, "orders(1, 0), the first by numbers", x.orders(1, 0), 1);
        D.due(20, "orders(1, 1)", x.orders(1, 1), 2);
        D.due(20, "orders(1, 2)", x.orders(1, 2), 0);
        D.due(20, "orders(0, 1000000)", x.orders(0, 1000000), -5);
        D.due(20, "orders(0, -2)", x.orders(0, -2), NoBetweens.BAD);
        D.due(20, "orders(2, -1)", x.orders(2, -1), NoBetweens.BAD);
        D.due(20, "orders(-1, -1)", x.orders(-1, -1), NoBetweens.BAD);
        D.due(20, "life(1, 0, 0), nothing is changed", x.life(1, 0, 0), 0);
        D.due(20, "now(5)", x.now(5), 0);
        x.drop();
        for (int i = 0; i < 5; i++) {
            x.plans(1, i);
        }
        D.due(20, "orders(1, -1), all of five", x.orders(1, -1), 120);
        for (int i = 0; i < 5; i++) {
            D.due(20, "orders(1, " + i + ")", x.orders(1, i), i);
        }
        D.due(20, "orders(1, 5)", x.orders(1, 5), -5);
        D.due(20, "orders(0, -1), at none by another scale", x.orders(0, -1), 0);
    }

    private static void ordersByAllScales() {
        NoBetweens x = Dues.told("s1 4 1;s1 9 1;l2 3 0 3;");
        x.plans(1, 9);
        x.plans(0, 2);
        x.plans(1, 1);
        // The life is at none by the first scale until change 1; change 2 must come behind change 0.
        D.due(20, "orders(0, -1)", x.orders(0, -1), 1);
        D.due(20, "orders(0, 0)", x.orders(0, 0), 1);
        D.due(20, "orders(0, 1)", x.orders(0, 1), 0);
        D.due(20, "orders(0, 2)", x.orders(0, 2), 2);
        x.law(0, 2, 1);
        D.due(20, "orders(0, -1) by another law", x.orders(0, -1), 3);
        D.due(20, "orders(0, 0) by another law", x.orders(0, 0), 0);
    }

    private static void bars() {
        NoBetweens x = Dues.told("s1 6 1;s1 9 1;l0 3 0 3;l0 3 1 3;");
        D.due(21, "bars(0) of nothing", x.bars(0), NoBetweens.NONE);
        D.due(21, "bars(1) of nothing", x.bars(1), NoBetweens.NONE);
        x.plans(0, 6);
        D.due(21, "bars(0)", x.bars(0), NoBetweens.NONE);
        x.plans(0, -1);
        // -1 at 0 is nothing, so that there is an order: it comes first.
        D.due(21, "bars(0), there is an order", x.bars(0), NoBetweens.NONE);
        x.plans(1, 4);
        D.due(21, "bars(0), the third", x.bars(0), 2);
        x.plans(1, 2);
        D.due(21, "bars(0), two that bar", x.bars(0), NoBetweens.NONE);
        D.due(21, "bars(1)", x.bars(1), NoBetweens.NONE);
        x.drop();
        x.plans(0, 3);
        x.plans(0, -3);
        // +3 is between; -3 alone is nothing.
        D.due(21, "bars(0), the first", x.bars(0), 0);
        x.drop();
        x.plans(0, 5);
        x.plans(0, 1);
        D.due(21, "bars(0), no one of both", x.bars(0), NoBetweens.NONE);
        D.due(21, "bars(2)", x.bars(2), NoBetweens.BAD);
        D.due(21, "bars(-1)", x.bars(-1), NoBetweens.BAD);
        D.due(21, "count(3), nothing is changed", x.count(3), 2);
    }

    private static void trip() {
        NoBetweens x = Dues.told("s0 10 1;s1 10 1;p0;p20;p10;p12;p8;p50;p20;p30;");
        D.due(22, "trip(0, 0, 1, 0)", x.trip(0, 0, 1, 0), 2);
        D.due(22, "trip(0, 0, 1, 1)", x.trip(0, 0, 1, 1), 2);
        D.due(22, "trip(0, 0, 7, 0)", x.trip(0, 0, 7, 0), 3);
        D.due(22, "trip(0, 1, 4, 0)", x.trip(0, 1, 4, 0), 2);
        D.due(22, "trip(0, 1, 4, 1)", x.trip(0, 1, 4, 1), 2);
        D.due(22, "trip(0, 4, 1, 1)", x.trip(0, 4, 1, 1), 2);
        D.due(22, "trip(0, 3, 0, 1), the least of two", x.trip(0, 3, 0, 1), 2);
        D.due(22, "trip(0, 1, 6, 0), no way apart", x.trip(0, 1, 6, 0), 1);
        D.due(22, "trip(0, 1, 6, 1)", x.trip(0, 1, 6, 1), 6);
        D.due(22, "trip(0, 0, 5, 0)", x.trip(0, 0, 5, 0), NoBetweens.NONE);
        D.due(22, "trip(0, 0, 5, 1)", x.trip(0, 0, 5, 1), NoBetweens.NONE);
        D.due(22, "trip(0, 5, 5, 0)", x.trip(0, 5, 5, 0), 0);
        D.due(22, "trip(0, 5, 5, 1)", x.trip(0, 5, 5, 1), NoBetweens.NONE);
        D.due(22, "trip(1, 0, 7, 0)", x.trip(1, 0, 7, 0), 3);
        D.due(22, "trip(1, 0, 3, 0)", x.trip(1, 0, 3, 0), NoBetweens.NONE);
        D.due(22, "trip(1, 2, 6, 1)", x.trip(1, 2, 6, 1), 6);
        D.due(22, "trip(1, 7, 2, 1)", x.trip(1, 7, 2, 1), 1);
        D.due(22, "trip(2, 0, 1, 0)", x.trip(2, 0, 1, 0), NoBetweens.BAD);
        D.due(22, "trip(-1, 0, 1, 0)", x.trip(-1, 0, 1, 0), NoBetweens.BAD);
        D.due(22, "trip(0, 8, 1, 0)", x.trip(0, 8, 1, 0), NoBetweens.BAD);
        D.due(22, "trip(0, -1, 1, 0)", x.trip(0, -1, 1, 0), NoBetweens.BAD);
        D.due(22, "trip(0, 0, 8, 0)", x.trip(0, 0, 8, 0), NoBetweens.BAD);
        D.due(22, "trip(0, 0, -1, 0)", x.trip(0, 0, -1, 0), NoBetweens.BAD);
        D.due(22, "trip(0, 0, 1, 2)", x.trip(0, 0, 1, 2), NoBetweens.BAD);
        D.due(22, "trip(0, 0, 1, -1)", x.trip(0, 0, 1, -1), NoBetweens.BAD);
    }

    private static void tripByTheLaw() {
        NoBetweens x = Dues.told("s1 4 1;p0;p2;p4;p6;p8;p7;");
        D.due(22, "trip(0, 0, 4, 0)", x.trip(0, 0, 4, 0), 2);
        D.due(22, "trip(0, 0, 4, 1)", x.trip(0, 0, 4, 1), 2);
        D.due(22, "trip(0, 0, 1, 0)", x.trip(0, 0, 1, 0), NoBetweens.NONE);
        x.law(0, 2, 1);
        D.due(22, "trip(0, 0, 1, 0) by BOTH", x.trip(0, 0, 1, 0), 1);
        D.due(22, "trip(0, 0, 3, 1) by BOTH", x.trip(0, 0, 3, 1), 1);
        x.law(0, 3, 1);
        D.due(22, "trip(0, 0, 5, 0) by NEARER", x.trip(0, 0, 5, 0), 2);
        D.due(22, "trip(0, 0, 5, 1) by NEARER", x.trip(0, 0, 5, 1), 2);
        x = Dues.told("s0 2 1;p0;p14;p2;p4;p6;p8;p10;p12;");
        D.due(22, "trip(0, 0, 1, 0) by all places", x.trip(0, 0, 1, 0), 7);
        D.due(22, "trip(0, 0, 1, 1) by all places", x.trip(0, 0, 1, 1), 2);
        D.due(22, "trip(0, 1, 0, 1) by all places", x.trip(0, 1, 0, 1), 7);
    }

    private static void parts() {
        NoBetweens x = Dues.told("s1 6 1;s0 10 4;s2 2 1;s3 30 1;");
        D.due(23, "parts(0, 12, 0)", x.parts(0, 12, 0), 2);
        D.due(23, "parts(0, 12, 1)", x.parts(0, 12, 1), 6);
        D.due(23, "parts(0, 13, 0)", x.parts(0, 13, 0), NoBetweens.NONE);
        D.due(23, "parts(0, 13, 1)", x.parts(0, 13, 1), NoBetweens.NONE);
        D.due(23, "parts(0, 3, 0)", x.parts(0, 3, 0), NoBetweens.NONE);
        D.due(23, "parts(0, 96, 0)", x.parts(0, 96, 0), 16);
        D.due(23, "parts(1, 10, 0)", x.parts(1, 10, 0), 1);
        D.due(23, "parts(1, 11, 0)", x.parts(1, 11, 0), 2);
        D.due(23, "parts(1, 11, 1)", x.parts(1, 11, 1), 10);
        D.due(23, "parts(1, 7, 1)", x.parts(1, 7, 1), 7);
        D.due(23, "parts(1, 99, 0)", x.parts(1, 99, 0), 10);
        D.due(23, "parts(2, 99, 0)", x.parts(2, 99, 0), 50);
        D.due(23, "parts(2, 1, 1)", x.parts(2, 1, 1), 1);
        D.due(23, "parts(3, 99, 0)", x.parts(3, 99, 0), 4);
        D.due(23, "parts(0, 0, 0)", x.parts(0, 0, 0), NoBetweens.BAD);
        D.due(23, "parts(0, 100, 0)", x.parts(0, 100, 0), NoBetweens.BAD);
        D.due(23, "parts(4, 1, 0)", x.parts(4, 1, 0), NoBetweens.BAD);
        D.due(23, "parts(-1, 1, 0)", x.parts(-1, 1, 0), NoBetweens.BAD);
        D.due(23, "parts(0, 1, 2)", x.parts(0, 1, 2), NoBetweens.BAD);
        D.due(23, "parts(0, 1, -1)", x.parts(0, 1, -1), NoBetweens.BAD);
    }

    private static void books() {
        NoBetweens x = Dues.told("s0 5 1;s1 5 1;");
        D.due(24, "books(2, 0, 0)", x.books(2, 0, 0), NoBetweens.BAD);
        D.due(24, "books(-1, 0, 0)", x.books(-1, 0, 0), NoBetweens.BAD);
        D.due(24, "books(0, -1, 0)", x.books(0, -1, 0), NoBetweens.BAD);
        D.due(24, "books(0, 61, 0)", x.books(0, 61, 0), NoBetweens.BAD);
        D.due(24, "books(0, 0, -1)", x.books(0, 0, -1), NoBetweens.BAD);
        D.due(24, "books(0, 0, 4)", x.books(0, 0, 4), NoBetweens.BAD);
        D.due(25, "burn() of nothing", x.burn(), 0);
        for (int i = 1; i <= 6; i++) {
            D.due(24, "books(1, 60, 3)", x.books(1, 60, 3), i);
        }
        D.due(24, "books(1, 60, 3), the seventh", x.books(1, 60, 3), NoBetweens.FULL);
        D.due(24, "books(1, 61, 3), BAD first", x.books(1, 61, 3), NoBetweens.BAD);
        D.due(24, "count(4)", x.count(4), 6);
        D.due(25, "burn()", x.burn(), 6);
        D.due(25, "count(4)", x.count(4), 0);
        D.due(25, "burn() again", x.burn(), 0);
        D.due(25, "fits(1), all again", x.fits(1), 42);
        D.due(24, "books(0, 0, 0)", x.books(0, 0, 0), 1);
    }

    private static void fits() {
        NoBetweens x = Dues.told("s1 30 1;s0 6 4;s2 6 1;s3 6 1;");
        D.due(26, "fits(0)", x.fits(0), 31 * 7);
        D.due(26, "fits(1)", x.fits(1), 49);
        x.books(1, 0, 1);
        D.due(26, "fits(1), 4 to 6", x.fits(1), 21);
        D.due(26, "fits(0), of the other scale", x.fits(0), 31 * 7);
        x.books(1, 1, 0);
        // 4 by -1, -2, -3; 5 by -2, -3; 6 by -3.
        D.due(26, "fits(1), fallen in a year", x.fits(1), 6);
        x.books(2, 60, 2);
        D.due(26, "fits(2), at rest between", x.fits(2), 5);
        x.books(2, 0, 0);
        D.due(26, "fits(2), none", x.fits(2), 0);
        x.books(3, 2, 2);
        // At 3 behind two years: 3 by 0, 1 by 1, 5 by -1.
        D.due(26, "fits(3)", x.fits(3), 3);
        x.law(3, 0, 4);
        D.due(26, "fits(3) by another law", x.fits(3), 0);
        x.undo();
        D.due(26, "fits(3) by the old law", x.fits(3), 3);
        D.due(26, "fits(4)", x.fits(4), NoBetweens.BAD);
        D.due(26, "fits(-1)", x.fits(-1), NoBetweens.BAD);
        x = Dues.told("s0 30 30;");
        x.books(0, 10, 1);
        // By 3 from 0 on, by 2 from 10 on, by 1 from 20 on, by 0 from 30 on.
        D.due(26, "fits(0), r at most", x.fits(0), 31 + 21 + 11 + 1);
    }

    private static void sure() {
        NoBetweens x = Dues.told("s1 30 1;s0 6 4;l0 3 0 3;");
        D.due(27, "sure(0, 0) of no books", x.sure(0, 0), -5);
        x.books(0, 0, 0);
        D.due(27, "sure(0, 0)", x.sure(0, 0), 0);
        D.due(27, "sure(0, 1)", x.sure(0, 1), -5);
        x.books(0, 1, 3);
        D.due(27, "sure(0, 1)", x.sure(0, 1), 3);
        D.due(27, "sure(0, 9)", x.sure(0, 9), 3);
        D.due(27, "sure(0, 10)", x.sure(0, 10), -5);
        D.due(27, "sure(0, 29)", x.sure(0, 29), -5);
        D.due(27, "sure(0, 30)", x.sure(0, 30), 1);
        D.due(27, "sure(0, 60)", x.sure(0, 60), 1);
        D.due(27, "sure(1, 60)", x.sure(1, 60), -5);
        x.books(0, 2, 0);
        D.due(27, "sure(0, 60), none fits", x.sure(0, 60), NoBetweens.NONE);
        x.burn();
        x.books(0, 0, 1);
        D.due(27, "sure(0, 0) of r alone", x.sure(0, 0), 1);
        D.due(27, "sure(0, 1) of r alone", x.sure(0, 1), -5);
        D.due(27, "sure(0, 61)", x.sure(0, 61), NoBetweens.BAD);
        D.due(27, "sure(0, -1)", x.sure(0, -1), NoBetweens.BAD);
        D.due(27, "sure(2, 0)", x.sure(2, 0), NoBetweens.BAD);
        D.due(27, "sure(-1, 0)", x.sure(-1, 0), NoBetweens.BAD);
        D.due(27, "now(0), nothing is changed", x.now(0), 0);
    }

    private static int clashOf(String text) {
        return Dues.told(text).clash();
    }

    private static void clash() {
        D.due(28, "one scale", clashOf("s0 5 1;"), NoBetweens.NONE);
        D.due(28, "alike", clashOf("s0 5 2;s0 5 2;"), NoBetweens.NONE);
        D.due(28, "two t", clashOf("s0 5 2;s0 5 3;"), 1);
        D.due(28, "two t the other way", clashOf("s0 5 3;s0 5 2;"), 1);
        D.due(28, "two ranges", clashOf("s0 5 2;s0 6 4;"), NoBetweens.NONE);
        D.due(28, "forbidden and both", clashOf("s1 5 2;s2 5 3;s0 5 1;"), NoBetweens.NONE);
        D.due(28, "nearer and jump at the middle", clashOf("s3 6 2;s0 6 3;"), NoBetweens.NONE);
        D.due(28, "nearer and jump behind the middle", clashOf("s3 6 2;s0 6 4;"), NoBetweens.NONE);
        D.due(28, "nearer and jump off the middle", clashOf("s3 6 2;s0 6 5;"), 1);
        D.due(28, "nearer of odd range", clashOf("s3 5 2;s0 5 3;"), NoBetweens.NONE);
        D.due(28, "at the greatest value but one", clashOf("s0 5 5;s2 5 1;s3 5 1;"), 2);
        D.due(28, "four alike", clashOf("s0 5 2;s0 5 2;s0 5 2;s0 5 2;"), NoBetweens.NONE);
        D.due(28, "the last pair", clashOf("s0 9 1;s0 8 1;s0 7 1;s0 7 2;"), 23);
        D.due(28, "the second and the last", clashOf("s0 9 1;s0 7 1;s0 8 1;s0 7 2;"), 13);
        D.due(28, "the first of several", clashOf("s0 9 1;s0 7 1;s0 7 2;s0 9 2;"), 3);
        D.due(28, "the lesser first", clashOf("s1 9 1;s0 9 1;s0 9 2;s0 9 3;"), 12);
    }
}
