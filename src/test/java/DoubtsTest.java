/** Promises 25 to 28: what cannot be together, what had better not be told, what a sight more would leave. */
public final class DoubtsTest {
    private static final String FOUR = "picture a;picture b;picture c;picture d";

    public static void main(String[] args) {
        knotOfNone();
        knotOfOne();
        knotOfTwo();
        knotOfMore();
        loose();
        looseOfTwoFaults();
        looseOfWhatPasses();
        would();
        wouldInPlace();
        ask();
        askOfLike();
        askNone();
        Due.end();
    }

    private static void knot(AlbumHours x, int bits, int many) {
        Due.is("25: knot(0)", x.knot(0), bits);
        Due.is("25: knot(1)", x.knot(1), many);
    }

    private static void knotOfNone() {
        AlbumHours x = new AlbumHours();
        knot(x, Due.NONE, Due.NONE);
        Due.tell(x, FOUR);
        knot(x, Due.NONE, Due.NONE);
        Due.is("25: knot(2)", x.knot(2), Due.OUTSIDE);
        Due.is("25: knot(-1)", x.knot(-1), Due.OUTSIDE);
    }

    private static void knotOfOne() {
        AlbumHours x = Due.of(FOUR + ";thing comes;thing goes;see 0 0 0;see 1 0 1;see 0 1 0;see 1 1 1");
        knot(x, 3, 2);
        x.length(3, 0, 0);
        knot(x, 8, 1);
        x.length(2, 0, 0);
        knot(x, 4, 1);
        x.length(0, 0, 0);
        knot(x, 1, 1);
        Due.is("25: knot(2), if there are no orders", x.knot(2), Due.OUTSIDE);
    }

    private static void knotOfTwo() {
        AlbumHours x = Due.of(FOUR + ";point 1 7 0;point 2 7 0;point 3 7 0");
        knot(x, 6, 2);
        x.strike(1, 0);
        knot(x, 12, 2);
        x.point(2, 8, 0);
        knot(x, Due.NONE, Due.NONE);
    }

    private static void knotOfMore() {
        AlbumHours x = Due.of(FOUR + ";thing passes;thing comes;thing goes;thing wears");
        x.see(0, 0, 1);
        x.see(1, 0, 0);
        x.see(2, 0, 1);
        x.see(0, 1, 0);
        x.see(1, 1, 1);
        x.see(1, 2, 1);
        x.see(2, 2, 0);
        knot(x, 7, 3);
        x.strike(1, 2);
        knot(x, Due.NONE, Due.NONE);
        x.see(2, 3, 3);
        x.see(3, 3, 4);
        x.see(3, 1, 0);
        knot(x, 14, 3);
        Due.tell(x, "album;" + FOUR + ";picture e;picture f;picture g");
        for (int p = 0; p < 7; p++) x.point(p, 0, 5);
        knot(x, 127, 7);
        for (int p = 0; p < 5; p++) x.point(p, 0, 3);
        knot(x, 31, 5);
    }

    private static void loose() {
        AlbumHours x = new AlbumHours();
        Due.is("26: none told", x.loose(-1), 0);
        Due.tell(x, FOUR + ";thing comes;thing goes;see 2 1 0;see 0 0 0;see 1 0 1;see 0 1 0;see 3 0 0");
        Due.is("26: there are orders", x.loose(-1), 0);
        Due.is("26: the first of none", x.loose(0), Due.NONE);
        x.see(1, 1, 1);
        int[] due = {4, 1, 2, 3, 5, -1};
        for (int k = -1; k < 5; k++) Due.is("26: loose(" + k + ")", x.loose(k), due[k + 1]);
        Due.is("26: far beyond", x.loose(Integer.MAX_VALUE), Due.NONE);
        Due.is("26: loose(-2)", x.loose(-2), Due.OUTSIDE);
        x.strike(2, 3);
        Due.is("26: by their numbers", x.loose(0), 0);
        Due.is("26: nothing is struck out", x.count(2), 5);
        x.strike(1, 3);
        Due.is("26: orders again", x.loose(-1), 0);
    }

    private static void looseOfTwoFaults() {
        AlbumHours x = Due.of(FOUR + ";point 0 7 0;point 1 7 0;point 2 8 0;point 3 8 0");
        Due.is("26: none alone would do", x.loose(-1), 0);
        Due.is("26: the first of them", x.loose(0), Due.NONE);
        x.point(3, 9, 0);
        Due.is("26: either of two", x.loose(-1) * 100 + x.loose(0) * 10 + x.loose(1), 201);
        x.length(0, 5, 3);
        Due.is("26: the point of a picture, not its length", x.loose(-1) * 10 + x.loose(0), 10);
        x.strike(1, 0);
        Due.is("26: the length, too", x.loose(-1) * 100 + x.loose(0) * 10 + x.loose(1), 203);
    }

    private static void looseOfWhatPasses() {
        AlbumHours x = Due.of("picture a;picture b;picture c;thing passes;see 0 0 1;see 1 0 0;see 2 0 1;point 0 4 0;point 1 5 0;point 2 6 0");
        Due.is("26: each of the six is", x.loose(-1), 6);
        x.point(2, 6, 9);
        Due.is("26: there are orders", x.loose(-1), 0);
        x.point(2, 9, 3);
        Due.is("26: six again", x.loose(-1), 6);
        x.see(2, 0, 0);
        x.length(0, 0, 0);
        Due.is("26: the length alone", x.loose(-1) * 10 + x.loose(0), 16);
    }

    private static void would() {
        AlbumHours x = Due.of(FOUR + ";thing comes;thing wears;see 0 0 0");
        Due.is("27: it comes", x.would(1, 2, 1), 12);
        Due.is("27: alike", x.would(1, 2, 0), 24);
        Due.is("27: a point", x.would(1, 0, 0), 24);
        Due.is("27: a length that is nowhere", x.would(1, 1, 4), 0);
        Due.is("27: nothing is told", x.count(2) * 10 + x.count(8), 10);
        Due.is("27: the orders are as they were", x.orders(), 24);
        Due.is("27: no picture", x.would(4, 9, 99), Due.UNKNOWN);
        Due.is("27: a matter of no thing", x.would(0, 4, 0), Due.OUTSIDE);
        Due.is("27: matter -1", x.would(0, -1, 0), Due.OUTSIDE);
        int[][] bad = {{0, 25}, {1, 1000}, {2, 2}, {3, 10}, {0, -1}, {1, -1}, {2, -1}, {3, -1}};
        for (int[] b : bad) Due.is("27: would(0, " + b[0] + ", " + b[1] + ")", x.would(0, b[0], b[1]), Due.OUTSIDE);
        int[][] good = {{0, 24}, {1, 149}, {2, 1}, {3, 9}};
        for (int[] g : good) Due.is("27: would(0, " + g[0] + ", " + g[1] + ")", x.would(0, g[0], g[1]), 24);
    }

    private static void wouldInPlace() {
        AlbumHours x = Due.of("picture a;picture b;picture c;thing goes;see 0 0 1;see 1 0 0;see 2 0 0;point 0 3 9;point 1 4 0");
        Due.is("27: as it is", x.orders(), 2);
        Due.is("27: in place of what there is", x.would(0, 2, 0), 6);
        Due.is("27: with no slack", x.would(0, 0, 4), 0);
        Due.is("27: a slot ahead", x.would(0, 0, 3), 1);
        Due.is("27: the slack is as it was", x.piece(0, 0, 1), 9);
        Due.is("27: of none", x.would(1, 1, 0), 0);
    }

    private static void ask() {
        AlbumHours x = Due.of(FOUR + ";thing comes;thing wears;thing goes;see 0 0 0;see 1 0 1;see 0 1 5");
        Due.is("28: the orders", x.orders(), 12);
        Due.is("28: by 2 or 3, c or d", x.ask(0), 22);
        Due.is("28: its worth", x.ask(1), 8);
        Due.is("28: by 0", x.would(2, 2, 0), 8);
        Due.is("28: by 1", x.would(2, 2, 1), 8);
        Due.is("28: nothing is told", x.count(2), 3);
        x.see(2, 0, 0);
        Due.is("28: the other one then", x.ask(0), 32);
        Due.is("28: the greater number of the two", x.ask(1), Math.max(x.would(3, 2, 0), x.would(3, 2, 1)));
        Due.is("28: which is", x.ask(1), 6);
        Due.is("28: ask(2)", x.ask(2), Due.OUTSIDE);
        Due.is("28: ask(-1)", x.ask(-1), Due.OUTSIDE);
    }

    private static void askOfLike() {
        AlbumHours x = Due.of("picture a;picture b;picture c;thing goes;thing comes;see 1 1 0;see 2 1 1;see 1 0 1;see 2 0 0");
        Due.is("28: of like ones the least matter", x.ask(0), 2);
        Due.is("28: its worth", x.ask(1), 2);
        x.see(0, 0, 0);
        Due.is("28: by 1 nothing would be other", x.ask(0), Due.NONE);
        Due.tell(x, "thing passes;picture d");
        x.see(1, 2, 1);
        x.see(2, 2, 1);
        x.see(0, 2, 0);
        Due.is("28: what passes", x.ask(0), 32);
    }

    private static void askNone() {
        AlbumHours x = new AlbumHours();
        Due.is("28: no pictures", x.ask(0), Due.NONE);
        Due.tell(x, FOUR);
        Due.is("28: no things", x.ask(0), Due.NONE);
        Due.tell(x, "thing comes;thing wears;see 0 1 1;see 1 1 2");
        Due.is("28: nothing that it would help", x.ask(0), Due.NONE);
        Due.is("28: no worth", x.ask(1), Due.NONE);
        Due.tell(x, "see 0 1 0;see 1 1 5");
        Due.is("28: what wears is not asked", x.ask(0), Due.NONE);
        x.see(0, 0, 0);
        x.see(1, 0, 1);
        Due.is("28: now it does", x.ask(0), 22);
        x.length(0, 0, 0);
        Due.is("28: no orders", x.ask(0), Due.NONE);
        Due.is("28: no orders, no worth", x.ask(1), Due.NONE);
    }
}
