/** Promises 1 to 8: a new object, the text, and what it tells. */
public final class LandTest {
    private static final Dues D = new Dues("LandTest");

    public static void main(String[] args) {
        newObject();
        type();
        clear();
        landReads();
        landFaults();
        landChangesNothingByAFault();
        landTellsAllAnew();
        scale();
        life();
        end();
        place();
        D.close();
    }

    private static void newObject() {
        NoBetweens x = new NoBetweens();
        for (int what = 0; what <= 5; what++) {
            D.due(1, "count(" + what + ")", x.count(what), 0);
            D.due(1, "now(" + what + ")", x.now(what), 0);
        }
        D.due(1, "count(6)", x.count(6), 2);
        D.due(1, "trace()", x.trace(), 0);
        D.due(1, "scale(0, 0)", x.scale(0, 0), NoBetweens.BAD);
        D.due(1, "life(0, 0, 0)", x.life(0, 0, 0), NoBetweens.BAD);
        D.due(1, "place(0)", x.place(0), NoBetweens.BAD);
        D.due(1, "undo()", x.undo(), NoBetweens.STATE);
        D.due(1, "back(0)", x.back(0), NoBetweens.STATE);
        D.due(1, "back(1)", x.back(1), NoBetweens.STATE);
        D.due(1, "clash()", x.clash(), NoBetweens.NONE);
        D.due(1, "passes(30)", x.passes(30), 30);
        D.due(1, "now(0) of another", new NoBetweens().now(0), 0);
        D.due(1, "BAD", NoBetweens.BAD, -1);
        D.due(1, "STATE", NoBetweens.STATE, -2);
        D.due(1, "FULL", NoBetweens.FULL, -3);
        D.due(1, "NONE", NoBetweens.NONE, -9);
        D.due(1, "NO", NoBetweens.NO, -1000000);
    }

    private static void type() {
        NoBetweens x = new NoBetweens();
        D.due(2, "type(0)", x.type(0), 1);
        D.due(2, "type(255)", x.type(255), 2);
        D.due(2, "type(-1)", x.type(-1), NoBetweens.BAD);
        D.due(2, "type(256)", x.type(256), NoBetweens.BAD);
        D.due(2, "count(5)", x.count(5), 2);
        for (int i = 3; i <= 200; i++) {
            D.due(2, "type(32)", x.type(32), i);
        }
        D.due(2, "type(32), the 201st", x.type(32), NoBetweens.FULL);
        D.due(2, "type(256) when full", x.type(256), NoBetweens.BAD);
        D.due(2, "count(5) when full", x.count(5), 200);
    }

    private static void clear() {
        NoBetweens x = Dues.told("s0 5 1;");
        D.due(3, "clear() of nothing", x.clear(), 0);
        Dues.types(x, "zzz");
        D.due(3, "clear()", x.clear(), 3);
        D.due(3, "count(5)", x.count(5), 0);
        D.due(3, "clear() again", x.clear(), 0);
        D.due(3, "count(0)", x.count(0), 1);
        D.due(3, "land() behind clear()", Dues.reads(x, "p1;"), 1);
    }

    private static void landReads() {
        D.due(4, "nothing", Dues.reads(new NoBetweens(), ""), 0);
        D.due(4, "blanks", Dues.reads(new NoBetweens(), "    "), 0);
        NoBetweens x = new NoBetweens();
        D.due(4, "blanks anywhere", Dues.reads(x, "  s 3   30 30  ;p  60 ;s0 2 2;d 9;l 30 6 0 0 ;p0;l7 3 2 5;  "), 7);
        D.due(4, "count(0)", x.count(0), 2);
        D.due(4, "count(1)", x.count(1), 2);
        D.due(4, "count(2)", x.count(2), 2);
        D.due(4, "count(5)", x.count(5), 0);
        D.due(4, "count(6)", x.count(6), 9);
        D.due(4, "scale(0, 0)", x.scale(0, 0), 3);
        D.due(4, "scale(0, 1)", x.scale(0, 1), 30);
        D.due(4, "scale(0, 2)", x.scale(0, 2), 30);
        D.due(4, "life(1, 0, 0)", x.life(1, 0, 0), 7);
        D.due(4, "life(1, 1, 1)", x.life(1, 1, 1), 5);
        D.due(4, "four of each, eight places",
            Dues.reads(x, "s0 2 1;s0 2 1;s0 2 1;s0 2 1;l0 0 0 0 0 0 0 0;l0 0 0 0 0 0 0 0;l0 0 0 0 0 0 0 0;"
                + "l2 6 2 6 2 6 2 6;p1;p1;p1;p1;p1;p1;p1;p1;d0;"), 17);
        D.due(4, "life(3, 3, 1)", x.life(3, 3, 1), 6);
        StringBuilder full = new StringBuilder("p1;");
        while (full.length() < 197) {
            full.append(' ');
        }
        D.due(4, "200 letters", Dues.reads(x, full.append("p2;").toString()), 2);
        D.due(4, "lives of no scale", Dues.reads(x, "l;l;l;l;"), 4);
        D.due(4, "now(1)", x.now(1), 0);
    }

    private static void fault(String text, int place) {
        D.due(4, "land() of '" + text + "'", Dues.reads(new NoBetweens(), text), -10 - place);
    }

    private static void landFaults() {
        fault("x", 0);
        fault("S", 0);
        fault("  \t", 2);
        fault("" + (char) 0, 0);
        fault("s0 5 1;" + (char) 255, 7);
        fault("5;", 0);
        fault(";", 0);
        fault("s0 5 1;;", 7);
        fault("ss", 1);
        fault("s0 5;", 4);
        fault("s0 5 1 1;", 7);
        fault("s0 5 1p", 6);
        fault("s0 5,1;", 4);
        fault("s4 5 1;", 1);
        fault("s0 1 1;", 3);
        fault("s0 31 1;", 3);
        fault("s0 5 6;", 5);
        fault("s3 5 0;", 5);
        fault("s00 5 1;", 1);
        fault("s0 05 1;", 3);
        fault("s0 5 01;", 5);
        fault("s0 100 1;", 3);
        fault("s0 5 1;l5 007;", 10);
        fault("s0 30 1;l099 0;", 9);
        fault("d00;", 1);
        fault("d10;", 1);
        fault("d4294967297;", 1);
        fault("d99999999999999999999999999;", 1);
        fault("d1;p0;d1;", 6);
        fault("d1;d;", 3);
        fault("p61;", 1);
        fault("p60;p060;", 5);
        fault("p1 00;", 3);
        fault("p1;p1;p1;p1;p1;p1;p1;p1;p", 24);
        fault("s0 5 1;s0 5 1;s0 5 1;s0 5 1;s0 5 1;", 28);
        fault("l;l;l;l; l;", 9);
        fault("l;s0 5 1;", 2);
        fault("s0 5 1;l0 0;p1;s0 5 1;", 15);
        fault("s0 5 1;l6 0;", 8);
        fault("s0 5 1;l5 7;", 10);
        fault("s0 5 1;l5;", 9);
        fault("s0 5 1;s0 5 1;l0 0;", 18);
        fault("s0 5 1;s0 4 1;l5 0 5 0;", 19);
        fault("l0;", 1);
        fault("s", 1);
        fault("s0 5 1", 6);
        fault("s0 5 1  ", 8);
        fault("d", 1);
        fault("p1;l", 4);
        fault("d x", 2);
        fault("p1;p61;x", 4);
        fault("x;p61;", 0);
        StringBuilder full = new StringBuilder("p1;p2;");
        while (full.length() < 200) {
            full.append(full.length() % 2 == 0 ? 'd' : '5');
        }
        fault(full.toString(), 8);
    }

    private static void landChangesNothingByAFault() {
        NoBetweens x = Dues.told("s1 6 1;l3 4;d4;p7;");
        x.passes(2);
        x.changes(0, 0, 1);
        x.plans(0, 1);
        x.books(0, 1, 1);
        x.keep(0);
        D.due(4, "land() with a fault", Dues.reads(x, "s0 5 1;l5 5;d9;p1;p2;q"), -31);
        D.due(4, "land() again", x.land(), -31);
        D.due(4, "count(5)", x.count(5), 22);
        D.due(4, "scale(0, 0)", x.scale(0, 0), 1);
        D.due(4, "scale(0, 1)", x.scale(0, 1), 6);
        D.due(4, "life(0, 0, 0)", x.life(0, 0, 0), 6);
        D.due(4, "life(0, 0, 1)", x.life(0, 0, 1), 4);
        D.due(4, "place(0)", x.place(0), 7);
        D.due(4, "count(2)", x.count(2), 1);
        D.due(4, "count(3)", x.count(3), 1);
        D.due(4, "count(4)", x.count(4), 1);
        D.due(4, "count(6)", x.count(6), 4);
        D.due(4, "now(0)", x.now(0), 2);
        D.due(4, "now(5)", x.now(5), 2);
        D.due(4, "back(0)", x.back(0), 2);
        x.clear();
        D.due(4, "land() of the next text", Dues.reads(x, "p3;"), 1);
        D.due(4, "place(0) of it", x.place(0), 3);
    }

    private static void landTellsAllAnew() {
        NoBetweens x = Dues.told("s2 6 1;s0 4 2;l0 6 1 3;d7;p7;p8;");
        x.passes(3);
        x.law(0, 3, 2);
        x.plans(0, 1);
        x.books(0, 1, 1);
        x.keep(0);
        x.keep(1);
        x.rate(0, 0);
        D.due(4, "now(4) ahead", x.now(4), 2);
        D.due(4, "land()", Dues.reads(x, "s2 6 1;l1 6;"), 2);
        D.due(4, "count(0)", x.count(0), 1);
        D.due(4, "count(2)", x.count(2), 0);
        D.due(4, "count(3)", x.count(3), 0);
        D.due(4, "count(4)", x.count(4), 0);
        D.due(4, "count(6)", x.count(6), 2);
        D.due(4, "now(0)", x.now(0), 0);
        D.due(4, "now(4)", x.now(4), 0);
        D.due(4, "now(5)", x.now(5), 0);
        D.due(4, "undo()", x.undo(), NoBetweens.STATE);
        D.due(4, "back(0)", x.back(0), NoBetweens.STATE);
        D.due(4, "back(1)", x.back(1), NoBetweens.STATE);
        D.due(4, "scale(0, 0)", x.scale(0, 0), 2);
        D.due(4, "life(0, 0, 0)", x.life(0, 0, 0), 1);
        D.due(4, "trace()", x.trace(), 1);
        D.due(4, "land() of nothing", x.land(), 0);
        D.due(4, "count(0) then", x.count(0), 0);
        D.due(4, "count(1) then", x.count(1), 0);
    }

    private static void scale() {
        NoBetweens x = Dues.told("s0 10 4;s3 7 2;");
        D.due(5, "scale(0, 0)", x.scale(0, 0), 0);
        D.due(5, "scale(0, 1)", x.scale(0, 1), 10);
        D.due(5, "scale(0, 2)", x.scale(0, 2), 4);
        D.due(5, "scale(1, 0)", x.scale(1, 0), 3);
        D.due(5, "scale(1, 1)", x.scale(1, 1), 7);
        D.due(5, "scale(1, 2)", x.scale(1, 2), 2);
        D.due(5, "scale(2, 0)", x.scale(2, 0), NoBetweens.BAD);
        D.due(5, "scale(-1, 0)", x.scale(-1, 0), NoBetweens.BAD);
        D.due(5, "scale(0, -1)", x.scale(0, -1), NoBetweens.BAD);
        D.due(5, "scale(0, 3)", x.scale(0, 3), NoBetweens.BAD);
        x.law(1, 0, 7);
        D.due(5, "scale(1, 0) by another law", x.scale(1, 0), 0);
        D.due(5, "scale(1, 2) by another law", x.scale(1, 2), 7);
    }

    private static void life() {
        NoBetweens x = Dues.told("s1 6 1;s2 4 1;l6 0 3 6;l2 3 0 5;");
        D.due(6, "life(0, 0, 0)", x.life(0, 0, 0), 6);
        D.due(6, "life(0, 0, 1)", x.life(0, 0, 1), 0);
        D.due(6, "life(0, 0, 2)", x.life(0, 0, 2), 1);
        D.due(6, "life(0, 1, 0)", x.life(0, 1, 0), 3);
        D.due(6, "life(0, 1, 1)", x.life(0, 1, 1), 6);
        D.due(6, "life(0, 1, 2)", x.life(0, 1, 2), 2);
        D.due(6, "life(1, 0, 2)", x.life(1, 0, 2), 3);
        D.due(6, "life(1, 1, 1)", x.life(1, 1, 1), 5);
        D.due(6, "life(1, 1, 2)", x.life(1, 1, 2), 0);
        D.due(6, "life(2, 0, 0)", x.life(2, 0, 0), NoBetweens.BAD);
        D.due(6, "life(-1, 0, 0)", x.life(-1, 0, 0), NoBetweens.BAD);
        D.due(6, "life(0, 2, 0)", x.life(0, 2, 0), NoBetweens.BAD);
        D.due(6, "life(0, -1, 0)", x.life(0, -1, 0), NoBetweens.BAD);
        D.due(6, "life(0, 0, 3)", x.life(0, 0, 3), NoBetweens.BAD);
        D.due(6, "life(0, 0, -1)", x.life(0, 0, -1), NoBetweens.BAD);
        x.passes(1);
        D.due(6, "life(0, 0, 0) a year on", x.life(0, 0, 0), 3);
        D.due(6, "life(0, 1, 0) a year on", x.life(0, 1, 0), 4);
    }

    private static void ends(NoBetweens x, int s, String ends) {
        for (int value = 0; value < ends.length(); value++) {
            D.due(7, "end(" + s + ", " + value + ")", x.end(s, value), ends.charAt(value) - '0');
        }
        D.due(7, "end(" + s + ", r + 1)", x.end(s, ends.length()), NoBetweens.BAD);
        D.due(7, "end(" + s + ", -1)", x.end(s, -1), NoBetweens.BAD);
    }

    private static void end() {
        NoBetweens x = Dues.told("s0 6 4;s1 6 4;s2 5 4;s3 6 4;");
        ends(x, 0, "0000111");
        ends(x, 1, "0333331");
        ends(x, 2, "022221");
        ends(x, 3, "0002111");
        x = Dues.told("s3 7 4;s0 2 1;s0 2 2;s3 2 1;");
        ends(x, 0, "00001111");
        ends(x, 1, "011");
        ends(x, 2, "001");
        ends(x, 3, "021");
        D.due(7, "end(4, 0)", x.end(4, 0), NoBetweens.BAD);
        D.due(7, "end(-1, 0)", x.end(-1, 0), NoBetweens.BAD);
    }

    private static void place() {
        NoBetweens x = Dues.told("p60;p0;p7;");
        D.due(8, "place(0)", x.place(0), 60);
        D.due(8, "place(1)", x.place(1), 0);
        D.due(8, "place(2)", x.place(2), 7);
        D.due(8, "place(3)", x.place(3), NoBetweens.BAD);
        D.due(8, "place(-1)", x.place(-1), NoBetweens.BAD);
    }
}
