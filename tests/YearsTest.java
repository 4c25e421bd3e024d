/** Promises 9 to 17: years, changes, laws, what is undone, and what comes. */
public final class YearsTest {
    private static final Dues D = new Dues("YearsTest");

    public static void main(String[] args) {
        passes();
        jumps();
        changes();
        law();
        undo();
        undoKnowsTen();
        now();
        behind();
        first();
        freed();
        bestJump();
        D.close();
    }

    private static void passes() {
        NoBetweens x = Dues.told("s0 10 4;l1 5;l9 1;l5 3;l2 0;");
        D.due(9, "passes(0)", x.passes(0), NoBetweens.BAD);
        D.due(9, "passes(31)", x.passes(31), NoBetweens.BAD);
        D.due(9, "passes(-1)", x.passes(-1), NoBetweens.BAD);
        D.due(9, "passes(1)", x.passes(1), 1);
        D.due(9, "life(0, 0, 0)", x.life(0, 0, 0), 3);
        D.due(9, "life(1, 0, 0)", x.life(1, 0, 0), 7);
        D.due(9, "life(2, 0, 0)", x.life(2, 0, 0), 5);
        D.due(9, "life(3, 0, 0), 0 at least", x.life(3, 0, 0), 0);
        D.due(9, "passes(30)", x.passes(30), 31);
        D.due(9, "life(0, 0, 0), r at most", x.life(0, 0, 0), 10);
        D.due(9, "life(1, 0, 0), 0 at least", x.life(1, 0, 0), 0);
        x.passes(30);
        x.passes(30);
        D.due(9, "now(0)", x.now(0), 91);
        D.due(9, "passes(9) to 100", x.passes(9), NoBetweens.STATE);
        D.due(9, "passes(31), BAD first", x.passes(31), NoBetweens.BAD);
        D.due(9, "now(5)", x.now(5), 4);
        D.due(9, "passes(8)", x.passes(8), 99);
        D.due(9, "passes(1) to 100", x.passes(1), NoBetweens.STATE);
    }

    private static void jumps() {
        NoBetweens x = Dues.told("s1 6 1;s3 4 1;l0 6 4 1;l3 3 0 5;");
        x.passes(1);
        D.due(9, "now(4): low to none, high to both, low to both", x.now(4), 3);
        x.passes(1);
        D.due(9, "now(4): none to high, both to low, both to high", x.now(4), 6);
        x.passes(5);
        D.due(9, "now(4): nobody moves", x.now(4), 6);
        x.changes(0, 0, -6);
        D.due(9, "now(4): a change is no jump", x.now(4), 6);
        x.law(0, 0, 6);
        D.due(9, "now(4): a law is no jump", x.now(4), 6);
        x = Dues.told("s0 6 3;l0 6;");
        x.passes(1);
        D.due(9, "now(4): by JUMP", x.now(4), 1);
    }

    private static void changes() {
        NoBetweens x = Dues.told("s1 20 1;s0 5 1;l10 3 4 3;");
        D.due(10, "changes(0, 0, 9)", x.changes(0, 0, 9), 19);
        D.due(10, "changes(0, 0, 9), r at most", x.changes(0, 0, 9), 20);
        D.due(10, "changes(0, 0, -9)", x.changes(0, 0, -9), 11);
        D.due(10, "changes(0, 1, -9), 0 at least", x.changes(0, 1, -9), 0);
        D.due(10, "life(0, 1, 0)", x.life(0, 1, 0), 0);
        D.due(10, "changes(0, 0, 0)", x.changes(0, 0, 0), 11);
        D.due(10, "now(5)", x.now(5), 5);
        D.due(10, "changes(0, 0, 10)", x.changes(0, 0, 10), NoBetweens.BAD);
        D.due(10, "changes(0, 0, -10)", x.changes(0, 0, -10), NoBetweens.BAD);
        D.due(10, "changes(1, 0, 1)", x.changes(1, 0, 1), NoBetweens.BAD);
        D.due(10, "changes(-1, 0, 1)", x.changes(-1, 0, 1), NoBetweens.BAD);
        D.due(10, "changes(0, 2, 1)", x.changes(0, 2, 1), NoBetweens.BAD);
        D.due(10, "changes(0, -1, 1)", x.changes(0, -1, 1), NoBetweens.BAD);
        D.due(10, "now(5)", x.now(5), 5);
    }

    private static void law() {
        NoBetweens x = Dues.told("s2 6 1;s1 4 1;l3 3 0 3;l0 3 4 3;l5 3 2 3;l1 3 0 3;");
        D.due(11, "law(0, 1, 6)", x.law(0, 1, 6), 3);
        D.due(11, "now(1)", x.now(1), 13);
        D.due(11, "scale(0, 2)", x.scale(0, 2), 6);
        D.due(11, "law(1, 0, 2)", x.law(1, 0, 2), 3);
        D.due(11, "law(0, 3, 1)", x.law(0, 3, 1), 0);
        D.due(11, "end(0, 3)", x.end(0, 3), 2);
        D.due(11, "law(0, 3, 1), the same", x.law(0, 3, 1), 0);
        D.due(11, "now(5)", x.now(5), 4);
        D.due(11, "law(0, 4, 1)", x.law(0, 4, 1), NoBetweens.BAD);
        D.due(11, "law(0, -1, 1)", x.law(0, -1, 1), NoBetweens.BAD);
        D.due(11, "law(0, 0, 0)", x.law(0, 0, 0), NoBetweens.BAD);
        D.due(11, "law(0, 1, 7)", x.law(0, 1, 7), NoBetweens.BAD);
        D.due(11, "law(2, 1, 1)", x.law(2, 1, 1), NoBetweens.BAD);
        D.due(11, "law(-1, 1, 1)", x.law(-1, 1, 1), NoBetweens.BAD);
        D.due(11, "now(5)", x.now(5), 4);
        D.due(11, "scale(0, 0)", x.scale(0, 0), 3);
    }

    private static void undo() {
        NoBetweens x = Dues.told("s1 6 2;l0 6;");
        D.due(12, "undo()", x.undo(), NoBetweens.STATE);
        x.passes(3);
        x.changes(0, 0, -4);
        x.law(0, 0, 5);
        x.passes(0);
        x.changes(0, 0, 10);
        x.law(0, 0, 7);
        D.due(12, "undo() of law()", x.undo(), 2);
        D.due(12, "scale(0, 0)", x.scale(0, 0), 1);
        D.due(12, "scale(0, 2)", x.scale(0, 2), 2);
        D.due(12, "life(0, 0, 0)", x.life(0, 0, 0), 2);
        D.due(12, "undo() of changes()", x.undo(), 1);
        D.due(12, "life(0, 0, 0)", x.life(0, 0, 0), 6);
        D.due(12, "now(4)", x.now(4), 2);
        D.due(12, "undo() of passes()", x.undo(), 0);
        D.due(12, "life(0, 0, 0)", x.life(0, 0, 0), 0);
        D.due(12, "now(0)", x.now(0), 0);
        D.due(12, "now(4)", x.now(4), 0);
        D.due(12, "undo()", x.undo(), NoBetweens.STATE);
        x.plans(0, 1);
        x.books(0, 0, 0);
        x.rate(0, 0);
        x.passes(1);
        x.undo();
        D.due(12, "count(3)", x.count(3), 1);
        D.due(12, "count(4)", x.count(4), 1);
        D.due(12, "trace()", x.trace(), 1);
    }

    private static void undoKnowsTen() {
        NoBetweens x = Dues.told("s0 30 1;l0 3;");
        for (int i = 1; i <= 13; i++) {
            x.changes(0, 0, 2);
            D.due(12, "now(5) behind " + i, x.now(5), Math.min(10, i));
        }
        for (int i = 9; i >= 5; i--) {
            D.due(12, "undo()", x.undo(), i);
        }
        D.due(12, "life(0, 0, 0)", x.life(0, 0, 0), 16);
        x.changes(0, 0, 1);
        D.due(12, "now(5)", x.now(5), 6);
        for (int i = 5; i >= 0; i--) {
            D.due(12, "undo()", x.undo(), i);
        }
        D.due(12, "life(0, 0, 0), older ones are lost", x.life(0, 0, 0), 6);
        D.due(12, "undo()", x.undo(), NoBetweens.STATE);
    }

    private static void now() {
        NoBetweens x = Dues.told("s2 6 1;s3 4 1;s1 3 1;l3 3 2 3 1 3;l0 3 4 3 0 3;l1 3 2 3 2 3;");
        D.due(13, "now(0)", x.now(0), 0);
        D.due(13, "now(1)", x.now(1), 5);
        D.due(13, "now(2)", x.now(2), 4);
        D.due(13, "now(3)", x.now(3), 1);
        x.changes(0, 0, -3);
        x.changes(2, 0, -1);
        D.due(13, "now(2)", x.now(2), 2);
        D.due(13, "now(3), as many as it holds", x.now(3), 0);
        x.passes(2);
        D.due(13, "now(0)", x.now(0), 2);
        D.due(13, "now(5)", x.now(5), 3);
        D.due(13, "now(6)", x.now(6), NoBetweens.BAD);
        D.due(13, "now(-1)", x.now(-1), NoBetweens.BAD);
        x = Dues.told("s2 2 1;l1 3;d0;");
        D.due(13, "now(3) of a drawer for none", x.now(3), 1);
    }

    private static void behind() {
        NoBetweens x = Dues.told("s1 6 1;s0 30 29;l0 5 0 4;l6 2 15 3;");
        D.due(14, "behind(0, 0, 0)", x.behind(0, 0, 0), 0);
        D.due(14, "behind(1, 0, 0)", x.behind(1, 0, 0), 3);
        D.due(14, "behind(3, 0, 0)", x.behind(3, 0, 0), 1);
        D.due(14, "behind(28, 0, 1)", x.behind(28, 0, 1), 0);
        D.due(14, "behind(29, 0, 1)", x.behind(29, 0, 1), 1);
        D.due(14, "behind(60, 1, 0)", x.behind(60, 1, 0), 0);
        D.due(14, "behind(61, 0, 0)", x.behind(61, 0, 0), NoBetweens.BAD);
        D.due(14, "behind(-1, 0, 0)", x.behind(-1, 0, 0), NoBetweens.BAD);
        D.due(14, "behind(0, 2, 0)", x.behind(0, 2, 0), NoBetweens.BAD);
        D.due(14, "behind(0, -1, 0)", x.behind(0, -1, 0), NoBetweens.BAD);
        D.due(14, "behind(0, 0, 2)", x.behind(0, 0, 2), NoBetweens.BAD);
        D.due(14, "behind(0, 0, -1)", x.behind(0, 0, -1), NoBetweens.BAD);
        x.passes(30);
        x.passes(30);
        x.passes(30);
        x.changes(0, 0, -6);
        D.due(14, "behind(60, 0, 0), past YEAR 99", x.behind(60, 0, 0), 1);
        D.due(14, "now(0), nothing is changed", x.now(0), 90);
        D.due(14, "life(0, 0, 0)", x.life(0, 0, 0), 0);
    }

    private static void first() {
        NoBetweens x = Dues.told("s0 30 1;s1 30 1;s1 4 1;l0 4 0 3 0 3;l0 4 30 2 4 2;l0 4 0 3 2 3;l0 0 0 4 0 4;");
        D.due(15, "first(0, 0)", x.first(0, 0), NoBetweens.NONE);
        D.due(15, "first(0, 1)", x.first(0, 1), NoBetweens.NONE);
        D.due(15, "first(1, 0)", x.first(1, 0), 1);
        D.due(15, "first(1, 1), the least", x.first(1, 1), 1);
        D.due(15, "first(2, 0)", x.first(2, 0), 0);
        D.due(15, "first(2, 1)", x.first(2, 1), 2);
        x.law(1, 2, 1);
        D.due(15, "first(3, 0)", x.first(3, 0), 1);
        D.due(15, "first(3, 1)", x.first(3, 1), 2);
        D.due(15, "first(4, 0)", x.first(4, 0), NoBetweens.BAD);
        D.due(15, "first(-1, 0)", x.first(-1, 0), NoBetweens.BAD);
        D.due(15, "first(0, 2)", x.first(0, 2), NoBetweens.BAD);
        D.due(15, "first(0, -1)", x.first(0, -1), NoBetweens.BAD);
        x = Dues.told("l;");
        D.due(15, "first(0, 0) of no scale", x.first(0, 0), NoBetweens.NONE);
        x = Dues.told("s1 30 1;l30 6;l29 4;");
        x.passes(30);
        x.passes(30);
        x.passes(30);
        x.changes(0, 0, -9);
        D.due(15, "first(0, 0), past nothing", x.first(0, 0), 0);
        D.due(15, "first(1, 0)", x.first(1, 0), NoBetweens.NONE);
    }

    private static void freed() {
        NoBetweens x = Dues.told("s1 30 5;s1 4 1;l1 4 0 3;l30 3 1 3;l30 2 0 3;");
        // Life 0 is between in the years 0 to 20, life 1 by the other scale alone, life 2 in the years 1 to 20.
        D.due(16, "freed(0, 2, 1)", x.freed(0, 2, 1), 41);
        D.due(16, "freed(0, 1, 9)", x.freed(0, 1, 9), 0);
        D.due(16, "freed(1, 0, 4)", x.freed(1, 0, 4), 21);
        x.law(0, 0, 1);
        D.due(16, "freed(0, 1, 1)", x.freed(0, 1, 1), -41);
        D.due(16, "scale(0, 0), nothing is changed", x.scale(0, 0), 0);
        D.due(16, "scale(0, 2), nothing is changed", x.scale(0, 2), 1);
        D.due(16, "now(5)", x.now(5), 1);
        x.passes(30);
        x.passes(30);
        x.passes(30);
        x.changes(2, 0, 9);
        // By year 90 life 0 stands high, and life 2 falls from 9: nine years between.
        D.due(16, "freed(0, 1, 1), past YEAR 99", x.freed(0, 1, 1), -9);
        D.due(16, "freed(2, 1, 1)", x.freed(2, 1, 1), NoBetweens.NO);
        D.due(16, "freed(-1, 1, 1)", x.freed(-1, 1, 1), NoBetweens.NO);
        D.due(16, "freed(0, 4, 1)", x.freed(0, 4, 1), NoBetweens.NO);
        D.due(16, "freed(0, -1, 1)", x.freed(0, -1, 1), NoBetweens.NO);
        D.due(16, "freed(0, 1, 0)", x.freed(0, 1, 0), NoBetweens.NO);
        D.due(16, "freed(0, 1, 31)", x.freed(0, 1, 31), NoBetweens.NO);
    }

    private static void bestJump() {
        NoBetweens x = Dues.told("s1 10 4;s0 30 7;l0 6 0 4;l9 2 30 2;l4 3 10 4;");
        // Above 4 and up to 10 life 0 crosses once, life 1 as well but at 10; life 2 stands at 4.
        D.due(17, "bestJump(0, 0)", x.bestJump(0, 0), 10);
        D.due(17, "bestJump(0, 1)", x.bestJump(0, 1), 1);
        // In 20 years life 0 comes to 20, life 1 to 10, life 2 to 30.
        D.due(17, "bestJump(1, 0)", x.bestJump(1, 0), 1);
        D.due(17, "bestJump(1, 1)", x.bestJump(1, 1), 1);
        x.changes(1, 1, -9);
        x.changes(0, 1, 9);
        x.changes(0, 1, 2);
        D.due(17, "bestJump(1, 0), nobody crosses it", x.bestJump(1, 0), 1);
        D.due(17, "bestJump(1, 1), nobody crosses it", x.bestJump(1, 1), 0);
        x = Dues.told("s0 30 7;l0 4;l10 4;");
        D.due(17, "bestJump(0, 0): 20 years and no more", x.bestJump(0, 0), 1);
        x = Dues.told("s0 30 7;l10 4;l5 2;");
        D.due(17, "bestJump(0, 0) between both ways", x.bestJump(0, 0), 6);
        D.due(17, "bestJump(0, 1) between both ways", x.bestJump(0, 1), 0);
        x = Dues.told("s0 30 7;l0 4;");
        D.due(17, "bestJump(0, 0) above what 20 years reach", x.bestJump(0, 0), 21);
        D.due(17, "scale(0, 2), nothing is changed", x.scale(0, 2), 7);
        D.due(17, "bestJump(1, 0)", x.bestJump(1, 0), NoBetweens.BAD);
        D.due(17, "bestJump(-1, 0)", x.bestJump(-1, 0), NoBetweens.BAD);
        D.due(17, "bestJump(0, 2)", x.bestJump(0, 2), NoBetweens.BAD);
        D.due(17, "bestJump(0, -1)", x.bestJump(0, -1), NoBetweens.BAD);
        x = Dues.told("s1 5 3;");
        D.due(17, "bestJump(0, 0) of nobody", x.bestJump(0, 0), 1);
        D.due(17, "bestJump(0, 1) of nobody", x.bestJump(0, 1), 0);
    }
}
