import java.util.ArrayList;
import java.util.List;

/**
 * Promises 19 to 24 and the document's sentences on AHEAD, BEFORE, ORDERS and LEFT, each at its bounds: the bound, one
 * below, one above; nothing told yet, as much as can be told. The sentence stands above its test.
 */
public final class OrdersBoundsTest {
    private static final String SEVEN = "picture a;picture b;picture c;picture d;picture e;picture f;picture g";
    private static final String TWO = "picture a;picture b;thing comes;thing goes;thing passes;thing wears";
    private static final int LEAST = Integer.MIN_VALUE, GREATEST = Integer.MAX_VALUE;

    public static void main(String[] args) {
        aheadByKind();
        aheadByWear();
        aheadByTwoPiecesAlone();
        beforeOverSeven();
        beforeOverSixThings();
        beforeRoundAbout();
        beforeOfAnotherThing();
        refusedBefore();
        ordersOfNoPicture();
        ordersOfOneToSeven();
        ordersInARow();
        ordersInAsManySlots();
        ordersInALaterSlot();
        ordersAtTheDaysEnd();
        toTheLastSlot();
        fromTheFirstSlot();
        ordersAtTheDaysBeginning();
        noneNotThereBetween();
        passesOverSeven();
        passesWhereNothingIsTold();
        twoThatPass();
        eachOfSixThatPasses();
        orderByNumbers();
        eachOrderOfOneToSeven();
        orderBeyond();
        refusedOrder();
        placesOfOne();
        placesOfSeven();
        placesWithAGap();
        placesWithoutOrders();
        refusedPlace();
        oftenOfSeven();
        oftenAlwaysNever();
        oftenBesideWhatPasses();
        oftenWithoutOrders();
        refusedOften();
        leftAll();
        leftInARow();
        leftOneEach();
        leftNone();
        leftByWindowAlone();
        leftBesideWhatPasses();
        refusedLeft();
        Due.end();
    }

    private static AlbumHours row() {
        AlbumHours x = Due.of(SEVEN + ";thing wears;thing comes");
        for (int p = 0; p < 7; p++) x.see(p, 0, p);
        return x;
    }

    /** AHEAD: it COMES, not there in the one, there in the other; or it GOES, the other way; what PASSES puts nobody ahead. */
    private static void aheadByKind() {
        String[] due = {"0 0 1 0 0 1 0 0", "0 0 0 1 1 0 0 0", "0 0 0 0 0 0 0 0"};
        for (int t = 0; t < 3; t++) {
            AlbumHours x = Due.of(TWO);
            long[] found = new long[8];
            for (int values = 0; values < 4; values++) {
                x.see(0, t, values >> 1);
                x.see(1, t, values & 1);
                found[2 * values] = x.before(0, 1);
                found[2 * values + 1] = x.before(1, 0);
            }
            Due.row("19: thing " + t, due[t], found);
        }
    }

    /** Or it WEARS, the one's value being less: by one, by nine; not alike. */
    private static void aheadByWear() {
        int[][] values = {{0, 0}, {0, 1}, {1, 0}, {0, 9}, {9, 0}, {8, 9}, {9, 8}, {9, 9}};
        for (int[] v : values) {
            AlbumHours x = Due.of(TWO);
            x.see(0, 3, v[0]);
            x.see(1, 3, v[1]);
            Due.row("19: wears " + v[0] + ", " + v[1], (v[0] < v[1] ? 1 : 0) + " " + (v[1] < v[0] ? 1 : 0), x.before(0, 1), x.before(1, 0));
        }
    }

    /** By their PIECES of some THING: of the same thing, both. */
    private static void aheadByTwoPiecesAlone() {
        AlbumHours x = Due.of("picture a;picture b;thing comes;thing comes;thing wears;see 0 0 0;see 1 1 1;see 0 2 0");
        Due.row("19: of two things, of one picture", "0 0 2", x.before(0, 1), x.before(1, 0), x.orders());
        x.see(1, 2, 1);
        Due.row("19: of one thing, both", "1 0 1", x.before(0, 1), x.before(1, 0), x.orders());
        x.strike(0, 4);
        Due.row("19: one struck out", "0 0 2", x.before(0, 1), x.before(1, 0), x.orders());
    }

    /** BEFORE: AHEAD, or AHEAD of one that is BEFORE it: nobody, the next, the seventh. */
    private static void beforeOverSeven() {
        AlbumHours x = Due.of(SEVEN);
        for (int a = 0; a < 7; a++) for (int b = 0; b < 7; b++) if (a != b) Due.is("19: nothing told", x.before(a, b), 0);
        Due.is("37: no pairs", x.count(3), 0);
        AlbumHours y = row();
        for (int a = 0; a < 7; a++) for (int b = 0; b < 7; b++) if (a != b) Due.is("19: before(" + a + ", " + b + ")", y.before(a, b), a < b ? 1 : 0);
        Due.is("37: pairs", y.count(3), 21);
    }

    /** Over as many as there can be between: by six things, each of which puts one ahead of the next. */
    private static void beforeOverSixThings() {
        AlbumHours x = Due.of(SEVEN, "thing comes;thing goes;thing comes;thing goes;thing comes;thing goes");
        for (int t = 0; t < 6; t++) {
            x.see(6 - t, t, t % 2);
            x.see(5 - t, t, 1 - t % 2);
        }
        for (int a = 0; a < 7; a++) for (int b = 0; b < 7; b++) if (a != b) Due.is("19: before(" + a + ", " + b + ")", x.before(a, b), a > b ? 1 : 0);
        Due.row("19: one order, pairs", "1 21 6 0", x.orders(), x.count(3), x.picture(0, 5), x.picture(6, 5));
        x.strike(3, 4);
        Due.row("19: the row broken between 4 and 3", "0 0 1 1 9", x.before(6, 0), x.before(4, 3), x.before(6, 4), x.before(3, 0), x.count(3));
    }

    private static void beforeRoundAbout() {
        AlbumHours x = row();
        x.see(6, 1, 0);
        x.see(0, 1, 1);
        for (int a = 0; a < 7; a++) for (int b = 0; b < 7; b++) if (a != b) Due.is("19: round about", x.before(a, b), 1);
        Due.row("19: none with itself", "-2 -2", x.before(0, 0), x.before(6, 6));
    }

    private static void beforeOfAnotherThing() {
        AlbumHours x = Due.of("picture a;picture b;picture c;thing comes;thing wears;see 0 0 0;see 1 0 1;see 1 1 8;see 2 1 9");
        Due.row("19: over one of another thing", "1 1 1 0", x.before(0, 1), x.before(1, 2), x.before(0, 2), x.before(2, 0));
    }

    /** UNKNOWN: no such PICTURE; the same PICTURE twice. */
    private static void refusedBefore() {
        AlbumHours x = Due.of(SEVEN);
        int[] wrong = {-1, 7, LEAST, GREATEST};
        for (int p : wrong) Due.row("19: picture " + p, "-2 -2 -2", x.before(p, 0), x.before(0, p), x.before(p, p));
        for (int p = 0; p < 7; p++) Due.is("19: twice " + p, x.before(p, p), Due.UNKNOWN);
        Due.row("19: the first and the last", "0 0", x.before(0, 6), x.before(6, 0));
        Due.row("19: of one picture", "-2 -2 -2", Due.of("picture a").before(0, 0), Due.of("picture a").before(0, 1), Due.of("picture a").before(1, 0));
        Due.row("19: of none", "-2", new AlbumHours().before(0, 1));
    }

    /** Of no PICTURES there is one: with things, too. */
    private static void ordersOfNoPicture() {
        Due.row("20: of none", "1 1 1", new AlbumHours().orders(), Due.of("album").orders(), Due.of("thing passes;thing wears").orders());
        Due.row("21: without a place", "-1 -1 -1", new AlbumHours().order(0, 0), new AlbumHours().order(0, 1), new AlbumHours().order(1, 0));
    }

    private static void ordersOfOneToSeven() {
        int[] due = {1, 1, 2, 6, 24, 120, 720, 5040};
        for (int n = 1; n <= 7; n++) Due.is("20: of " + n, Due.of(SEVEN.substring(0, 10 * n - 1)).orders(), due[n]);
    }

    /** Who is AHEAD of another one stands ahead of it: one order, seven, none. */
    private static void ordersInARow() {
        AlbumHours x = row();
        Due.row("20: one", "1 0 1 2 3 4 5 6", x.orders(), x.order(0, 0), x.order(0, 1), x.order(0, 2), x.order(0, 3), x.order(0, 4), x.order(0, 5), x.order(0, 6));
        x.strike(3, 2);
        Due.row("20: the fourth anywhere", "7 3 0", x.orders(), x.order(6, 0), x.order(6, 1));
        x.see(6, 1, 0);
        x.see(0, 1, 1);
        Due.row("20: round about", "0 -1 -1", x.orders(), x.order(0, 0), x.order(0, 6));
        AlbumHours y = row();
        for (int p = 0; p < 7; p++) y.see(p, 0, 9);
        Due.is("20: all alike", y.orders(), 5040);
    }

    /** Each one of its WINDOW, each later one of the row a later SLOT: in one slot fewer, as many, one more. */
    private static void ordersInAsManySlots() {
        AlbumHours x = Due.of(SEVEN);
        for (int p = 0; p < 7; p++) x.point(p, 0, 5);
        Due.row("20: seven in six", "0 -1", x.orders(), x.order(0, 0));
        for (int p = 0; p < 7; p++) x.point(p, 0, 6);
        Due.is("20: seven in seven", x.orders(), 5040);
        for (int p = 0; p < 7; p++) x.point(p, 24, 7);
        Due.is("20: seven in eight", x.orders(), 5040);
        x.point(0, 24, 0);
        Due.row("20: one of them in the last of all", "720 6 6", x.orders(), x.place(0, 0), x.place(0, 1));
        x.point(1, 24, 0);
        Due.is("20: two of them in it", x.orders(), 0);
    }

    /** A later SLOT: not the same one. */
    private static void ordersInALaterSlot() {
        AlbumHours x = Due.of(TWO);
        int[][] due = {{6, 7, 1}, {7, 7, 0}, {8, 7, 1}, {0, 24, 1}};
        for (int[] d : due) {
            x.point(0, d[0], 0);
            x.point(1, d[1], 0);
            Due.row("20: points " + d[0] + ", " + d[1], d[2] + " " + (d[2] == 0 ? -1 : d[0] < d[1] ? 0 : 1), x.orders(), x.order(0, 0));
        }
        x.point(0, 7, 1);
        x.point(1, 7, 0);
        Due.is("20: a slot ahead, a slot behind", x.orders(), 2);
        x.see(0, 0, 0);
        x.see(1, 0, 1);
        Due.row("20: ahead alone", "1 1 18 18", x.orders(), x.left(0, 0), x.left(0, 1), x.left(0, 2));
        x.point(0, 8, 0);
        Due.is("20: behind, but ahead", x.orders(), 0);
    }

    /** SLOTS to 47: five behind a shadow's latest one, six behind the one ahead of it. */
    private static void ordersAtTheDaysEnd() {
        AlbumHours x = Due.of("sun 30 1 1;" + SEVEN);
        x.point(0, 24, 0);
        Due.row("20: slot 42, five behind it", "4320 1 6", x.orders(), x.place(0, 0), x.place(0, 1));
        x.point(0, 23, 0);
        Due.row("20: slot 41, six behind it", "5040 0 6", x.orders(), x.place(0, 0), x.place(0, 1));
        Due.row("24: the others, not at that slot", "47 0 47", x.left(1, 0), x.left(1, 1), x.left(1, 2));
    }

    /** THE DAY has SLOTS 0 .. 47: a row that ends in the last one; one picture more cannot be behind it. */
    private static void toTheLastSlot() {
        AlbumHours x = Due.of("sun 30 1 1;" + SEVEN + ";thing wears;point 0 24 0");
        for (int p = 0; p < 6; p++) x.see(p, 0, p);
        x.see(6, 0, 0);
        Due.row("20: six to the last slot, the seventh ahead of them or beside the first", "1 6 0 1", x.orders(), x.order(0, 0), x.order(0, 1), x.order(0, 2));
        for (int p = 0; p < 6; p++) {
            Due.row("22, 24: " + p, (p + 1) + " " + (p + 1) + " 1 " + (42 + p), x.place(p, 0), x.place(p, 1), x.left(p, 0), x.left(p, 2));
        }
        Due.row("24: the seventh", "42 0 41", x.left(6, 0), x.left(6, 1), x.left(6, 2));
        Due.row("25: no knot", "-1 0", x.knot(0), x.loose(-1));
        x.see(6, 0, 9);
        Due.row("20: the seventh behind them", "0 -4 0 127 7", x.orders(), x.place(0, 0), x.left(0, 0), x.knot(0), x.knot(1));
        Due.row("26: each of the eight pieces is one too many", "8 0 7", x.loose(-1), x.loose(0), x.loose(7));
        x.point(0, 23, 0);
        Due.row("20: a slot earlier", "1 47 41", x.orders(), x.left(6, 2), x.left(0, 1));
    }

    /** The first slot: nobody is ahead of it. */
    private static void fromTheFirstSlot() {
        AlbumHours x = Due.of("sun 18 1 1;" + SEVEN + ";thing wears;point 6 0 0");
        for (int p = 0; p < 7; p++) x.see(p, 0, p);
        for (int p = 0; p < 7; p++) Due.row("24: " + p, "1 " + p, x.left(p, 0), x.left(p, 1));
        Due.row("20: one", "1 0 6", x.orders(), x.place(0, 0), x.place(6, 1));
        x.point(6, 1, 0);
        for (int p = 0; p < 6; p++) Due.row("24: a slot later, " + p, "2 " + p + " " + (p + 1), x.left(p, 0), x.left(p, 1), x.left(p, 2));
    }

    /** SLOTS from 0: six ahead of a shadow's earliest one. */
    private static void ordersAtTheDaysBeginning() {
        AlbumHours x = Due.of("sun 18 1 1;" + SEVEN + ";point 0 0 0");
        Due.row("20: slot 6, six ahead of it", "5040 0 6", x.orders(), x.place(0, 0), x.place(0, 1));
        x.point(1, 1, 0);
        Due.row("20: slots 6 and 7, nobody between", "720 0 5 1 6", x.orders(), x.place(0, 0), x.place(0, 1), x.place(1, 0), x.place(1, 1));
        Due.row("24: not these two", "46 0 47", x.left(2, 0), x.left(2, 1), x.left(2, 2));
    }

    /** None in which a THING that PASSES is not there stands between two in which it is there. */
    private static void noneNotThereBetween() {
        AlbumHours x = Due.of("picture a;picture b;picture c;thing passes");
        int[][] due = {{0, 0, 0, 6}, {1, 0, 0, 6}, {1, 1, 0, 4}, {1, 1, 1, 6}, {0, 1, 0, 6}, {0, 1, 1, 4}};
        for (int[] d : due) {
            for (int p = 0; p < 3; p++) x.see(p, 0, d[p]);
            Due.is("20: passes " + d[0] + d[1] + d[2], x.orders(), d[3]);
        }
        Due.orders(x, "012 021 120 210");
    }

    private static void passesOverSeven() {
        AlbumHours x = Due.of(SEVEN + ";thing passes");
        int[] due = {5040, 5040, 1440, 720, 576, 720, 1440, 5040};
        for (int there = 0; there <= 7; there++) {
            for (int p = 0; p < 7; p++) x.see(p, 0, p < there ? 1 : 0);
            Due.is("20: there in " + there + " of seven", x.orders(), due[there]);
        }
    }

    /** What is not told stands anywhere. */
    private static void passesWhereNothingIsTold() {
        AlbumHours x = Due.of(SEVEN + ";thing passes;see 0 0 1;see 6 0 1");
        Due.is("20: in two, the others not told", x.orders(), 5040);
        x.see(3, 0, 0);
        Due.is("20: not there in one, which is not between them", x.orders(), 3360);
        x.strike(6, 2);
        Due.is("20: there in one alone", x.orders(), 5040);
    }

    private static void twoThatPass() {
        AlbumHours x = Due.of("picture a;picture b;picture c;thing passes;thing passes;see 0 0 1;see 1 0 1;see 2 0 0");
        Due.orders(x, "012 102 201 210");
        Due.tell(x, "see 1 1 1;see 2 1 1;see 0 1 0");
        Due.orders(x, "012 210");
        Due.tell(x, "thing passes;see 0 2 1;see 1 2 0;see 2 2 1");
        Due.orders(x, "");
        Due.tell(x, "album;picture a;picture b;picture c");
        Due.is("20: of a new album, in which nothing passes", x.orders(), 6);
    }

    /** A THING that PASSES: whichever of the six it is, the others being of another kind, of the same one. */
    private static void eachOfSixThatPasses() {
        String[] others = {"thing comes", "thing goes", "thing passes", "thing wears"};
        for (String other : others) {
            for (int t = 0; t < 6; t++) {
                AlbumHours x = Due.of("picture a;picture b;picture c");
                for (int i = 0; i < 6; i++) Due.tell(x, i == t ? "thing passes" : other);
                x.see(0, t, 1);
                x.see(1, t, 0);
                x.see(2, t, 1);
                Due.orders(x, "021 102 120 201");
            }
        }
    }

    /** The first by numbers ahead (PICTURE by PICTURE). */
    private static void orderByNumbers() {
        Due.orders(Due.of("picture a;picture b;picture c"), "012 021 102 120 201 210");
        Due.orders(Due.of("picture a;picture b;picture c;thing comes;see 0 0 1;see 1 0 0"), "102 120 210");
        AlbumHours x = Due.of(SEVEN);
        int[] last = {6, 5, 4, 3, 2, 1, 0};
        for (int i = 0; i < 7; i++) Due.row("21: place " + i, i + " " + last[i], x.order(0, i), x.order(5039, i));
        Due.row("21: the second, the last but one", "6 5 0 1", x.order(1, 5), x.order(1, 6), x.order(5038, 5), x.order(5038, 6));
        Due.row("21: the last with 0 first, the first with 1", "0 6 1 1 0 6", x.order(719, 0), x.order(719, 1), x.order(719, 6), x.order(720, 0),
                x.order(720, 1), x.order(720, 6));
    }

    /** The k-th of all rows of n pictures, by numbers. */
    private static String rowAt(int k, int n) {
        List<Integer> rest = new ArrayList<>();
        int rows = 1;
        for (int p = 0; p < n; p++) {
            rest.add(p);
            rows *= p + 1;
        }
        StringBuilder row = new StringBuilder();
        int behind = k;
        for (int i = 0; i < n; i++) {
            rows /= n - i;
            row.append(i > 0 ? " " : "").append(rest.remove(behind / rows));
            behind %= rows;
        }
        return row.toString();
    }

    /** The first by numbers ahead: each one of all, each place; on a new object every 20 orders, for one answers 512 calls only. */
    private static void eachOrderOfOneToSeven() {
        int all = 1;
        for (int n = 1; n <= 7; n++) {
            all *= n;
            AlbumHours x = null;
            for (int k = 0; k < all; k++) {
                if (k % 20 == 0) x = Due.of(SEVEN.substring(0, 10 * n - 1));
                long[] found = new long[n];
                for (int i = 0; i < n; i++) found[i] = x.order(k, i);
                Due.row("21: order " + k + " of " + n + " pictures", rowAt(k, n), found);
            }
        }
    }

    /** NONE: there is no such ORDER, no such place. */
    private static void orderBeyond() {
        AlbumHours x = Due.of(SEVEN);
        Due.row("21: the orders", "6 0 -1 -1 -1", x.order(0, 6), x.order(5039, 6), x.order(5040, 0), x.order(5041, 0), x.order(GREATEST, 0));
        Due.row("21: the places", "-1 -1 -1 -1", x.order(0, 7), x.order(5039, 7), x.order(0, GREATEST), x.order(GREATEST, GREATEST));
        AlbumHours y = Due.of("picture a");
        Due.row("21: of one picture", "0 -1 -1", y.order(0, 0), y.order(0, 1), y.order(1, 0));
        y.length(0, 4, 0);
        Due.row("21: no orders", "0 -1 -1", y.orders(), y.order(0, 0), y.order(0, 1));
    }

    /** OUTSIDE: k, i below 0; ahead of there being none. */
    private static void refusedOrder() {
        AlbumHours x = Due.of("picture a;picture b");
        Due.row("21: k", "-3 -3 -3", x.order(-1, 0), x.order(LEAST, 0), x.order(-1, 2));
        Due.row("21: i", "-3 -3 -3", x.order(0, -1), x.order(0, LEAST), x.order(2, -1));
        Due.row("21: both", "-3 -3", x.order(-1, -1), x.order(LEAST, LEAST));
        Due.row("21: no pictures", "-3 -3", new AlbumHours().order(-1, 0), new AlbumHours().order(0, -1));
        x.length(0, 4, 0);
        Due.row("21: no orders", "-3 -3", x.order(-1, 0), x.order(0, -1));
    }

    /** The least place (what 0), the greatest (1) that a PICTURE has in the ORDERS. */
    private static void placesOfOne() {
        AlbumHours x = Due.of("picture a");
        Due.row("22: one picture", "0 0", x.place(0, 0), x.place(0, 1));
    }

    private static void placesOfSeven() {
        AlbumHours x = Due.of(SEVEN);
        for (int p = 0; p < 7; p++) Due.row("22: anywhere", "0 6", x.place(p, 0), x.place(p, 1));
        AlbumHours y = row();
        for (int p = 0; p < 7; p++) Due.row("22: in a row", p + " " + p, y.place(p, 0), y.place(p, 1));
        y.strike(6, 2);
        for (int p = 0; p < 6; p++) Due.row("22: one of them anywhere", p + " " + (p + 1), y.place(p, 0), y.place(p, 1));
        Due.row("22: that one", "0 6", y.place(6, 0), y.place(6, 1));
    }

    /** The least place, the greatest: though it has none between them. */
    private static void placesWithAGap() {
        AlbumHours x = Due.of("picture a;picture b;picture c;thing passes;see 0 0 1;see 1 0 0;see 2 0 1");
        Due.row("22: first or last of three", "0 2 0 2 0 2", x.place(1, 0), x.place(1, 1), x.place(0, 0), x.place(0, 1), x.place(2, 0), x.place(2, 1));
        AlbumHours y = Due.of(SEVEN + ";thing passes");
        for (int p = 0; p < 7; p++) y.see(p, 0, p == 3 ? 0 : 1);
        Due.row("22: first or last of seven", "1440 0 6", y.orders(), y.place(3, 0), y.place(3, 1));
        for (int p = 0; p < 7; p++) if (p != 3) Due.row("22: the others", "0 6", y.place(p, 0), y.place(p, 1));
    }

    /** NOT: there are no ORDERS; behind UNKNOWN, OUTSIDE. */
    private static void placesWithoutOrders() {
        AlbumHours x = Due.of("picture a;picture b;long 1 4 0");
        Due.row("22: no orders", "-4 -4 -4 -4", x.place(0, 0), x.place(0, 1), x.place(1, 0), x.place(1, 1));
        Due.row("22: no orders, no what", "-3 -3", x.place(0, 2), x.place(1, -1));
        Due.row("22: no orders, no picture", "-2 -2 -2", x.place(2, 0), x.place(-1, 1), x.place(2, 2));
        x.undo();
        x.strike(1, 1);
        Due.row("22: orders again", "0 1", x.place(0, 0), x.place(0, 1));
    }

    private static void refusedPlace() {
        AlbumHours x = Due.of(SEVEN);
        int[] wrong = {-1, 7, LEAST, GREATEST};
        for (int p : wrong) Due.row("22: picture " + p, "-2 -2 -2", x.place(p, 0), x.place(p, 1), x.place(p, 2));
        int[] whats = {-1, 2, LEAST, GREATEST};
        for (int what : whats) Due.row("22: what " + what, "-3 -3", x.place(0, what), x.place(6, what));
        Due.row("22: no pictures", "-2 -2", new AlbumHours().place(0, 0), new AlbumHours().place(0, 2));
    }

    /** In how many ORDERS the one stands ahead of the other: half of all. */
    private static void oftenOfSeven() {
        AlbumHours x = Due.of(SEVEN);
        for (int a = 0; a < 7; a++) for (int b = 0; b < 7; b++) if (a != b) Due.is("23: half", x.often(a, b), 2520);
        Due.row("23: of two", "1 1", Due.of(TWO).often(0, 1), Due.of(TWO).often(1, 0));
    }

    /** All, none; one that nothing is told of. */
    private static void oftenAlwaysNever() {
        AlbumHours x = row();
        x.strike(6, 2);
        for (int a = 0; a < 6; a++) for (int b = 0; b < 6; b++) if (a != b) Due.is("23: always, never", x.often(a, b), a < b ? 7 : 0);
        for (int p = 0; p < 6; p++) Due.row("23: the seventh and " + p, (p + 1) + " " + (6 - p), x.often(6, p), x.often(p, 6));
        AlbumHours y = Due.of("picture a;picture b;point 0 5 0;point 1 5 1");
        Due.row("23: by slots", "1 1", y.often(0, 1), y.often(1, 0));
        y.point(1, 6, 0);
        Due.row("23: by slots, always and never", "1 0", y.often(0, 1), y.often(1, 0));
    }

    /** In how many of the ORDERS, not of all rows. */
    private static void oftenBesideWhatPasses() {
        AlbumHours x = Due.of("picture a;picture b;picture c;thing passes;see 0 0 1;see 1 0 0;see 2 0 1");
        Due.row("23: what passes", "4 2 2 2 2 2 2", x.orders(), x.often(0, 1), x.often(1, 0), x.often(0, 2), x.often(2, 0), x.often(1, 2), x.often(2, 1));
        Due.row("27: beside it", "4 4 6", x.would(0, 0, 3), x.would(1, 2, 0), x.would(1, 2, 1));
        x.point(0, 3, 0);
        x.point(1, 4, 0);
        x.point(2, 5, 0);
        Due.row("26: of it, of the slots", "6 0 5", x.loose(-1), x.loose(0), x.loose(5));
    }

    private static void oftenWithoutOrders() {
        AlbumHours x = Due.of("picture a;picture b;long 1 4 0");
        Due.row("23: no orders", "0 0 -2", x.often(0, 1), x.often(1, 0), x.often(1, 1));
    }

    private static void refusedOften() {
        AlbumHours x = Due.of(SEVEN);
        int[] wrong = {-1, 7, LEAST, GREATEST};
        for (int p : wrong) Due.row("23: picture " + p, "-2 -2 -2", x.often(p, 0), x.often(0, p), x.often(p, p));
        for (int p = 0; p < 7; p++) Due.is("23: twice " + p, x.often(p, p), Due.UNKNOWN);
        Due.row("23: of one picture, of none", "-2 -2 -2", Due.of("picture a").often(0, 0), Due.of("picture a").often(0, 1), new AlbumHours().often(0, 1));
    }

    private static void left(String what, AlbumHours x, int picture, int many, int first, int last) {
        Due.row("24: " + what, many + " " + first + " " + last, x.left(picture, 0), x.left(picture, 1), x.left(picture, 2));
    }

    /** LEFT: the SLOTS that it can be GIVEN in some of the ORDERS: all. */
    private static void leftAll() {
        left("one alone", Due.of("picture a"), 0, 48, 0, 47);
        AlbumHours x = Due.of(SEVEN);
        for (int p = 0; p < 7; p++) left("of seven", x, p, 48, 0, 47);
    }

    /** As many ahead as there are, as many behind: 42 of 48 slots. */
    private static void leftInARow() {
        AlbumHours x = row();
        for (int p = 0; p < 7; p++) left("in a row", x, p, 42, p, 41 + p);
        AlbumHours y = Due.of("picture a;picture b;thing wears;see 0 0 8;see 1 0 9");
        left("the first of two", y, 0, 47, 0, 46);
        left("the second of two", y, 1, 47, 1, 47);
    }

    private static void leftOneEach() {
        AlbumHours x = row();
        for (int p = 0; p < 7; p++) x.point(p, 3, 3);
        for (int p = 0; p < 7; p++) left("one slot each", x, p, 1, 12 + p, 12 + p);
        x.point(6, 3, 4);
        for (int p = 0; p < 7; p++) left("one slot more behind all", x, p, 2, 12 + p, 13 + p);
        x.point(6, 0, 6);
        x.point(0, 0, 0);
        for (int p = 0; p < 7; p++) left("the first held at its slot", x, p, 1, 12 + p, 12 + p);
        for (int p = 0; p < 7; p++) x.point(p, 4, 4);
        for (int p = 0; p < 7; p++) left("nine slots", x, p, 3, 12 + p, 14 + p);
    }

    /** How many SLOTS (what 0), the first (1; NONE), the last (2; NONE): none, if there are no ORDERS. */
    private static void leftNone() {
        AlbumHours x = Due.of("picture a;picture b;long 1 4 0");
        left("of the one that cannot be", x, 1, 0, -1, -1);
        left("of the other", x, 0, 0, -1, -1);
        Due.row("7: its window", "48 0 47", x.picture(0, 2), x.picture(0, 3), x.picture(0, 4));
        x.strike(1, 1);
        left("of both again", x, 0, 48, 0, 47);
    }

    private static void leftByWindowAlone() {
        AlbumHours x = Due.of("picture a;picture b;point 0 0 9;point 1 24 9");
        left("windows far apart", x, 0, 10, 12, 21);
        left("windows far apart", x, 1, 10, 27, 36);
        x.point(1, 0, 0);
        left("the other's slot is the first one", x, 0, 9, 13, 21);
        x.point(1, 9, 0);
        left("the other's slot is the last one", x, 0, 9, 12, 20);
        x.point(1, 4, 0);
        left("the other's slot is between", x, 0, 9, 12, 21);
        x.point(1, 10, 0);
        left("the other's slot is beyond", x, 0, 10, 12, 21);
    }

    /** In some of the ORDERS: ahead of two between which it cannot stand, and behind them. */
    private static void leftBesideWhatPasses() {
        AlbumHours x = Due.of("picture a;picture b;picture c;thing passes;see 0 0 1;see 1 0 0;see 2 0 1;point 0 0 0;point 2 24 0");
        Due.row("20: ahead of both, behind both", "2 0 2", x.orders(), x.place(1, 0), x.place(1, 1));
        left("slots 0 to 11, 37 to 47", x, 1, 23, 0, 47);
        x.strike(1, 2);
        left("between them, too", x, 1, 46, 0, 47);
    }

    private static void refusedLeft() {
        AlbumHours x = Due.of(SEVEN);
        int[] wrong = {-1, 7, LEAST, GREATEST};
        for (int p : wrong) Due.row("24: picture " + p, "-2 -2 -2", x.left(p, 0), x.left(p, 2), x.left(p, 3));
        int[] whats = {-1, 3, LEAST, GREATEST};
        for (int what : whats) Due.row("24: what " + what, "-3 -3", x.left(0, what), x.left(6, what));
        Due.row("24: no pictures", "-2 -2", new AlbumHours().left(0, 0), new AlbumHours().left(0, 3));
        x.length(0, 4, 0);
        Due.row("24: no orders, no what, no picture", "-3 -2", x.left(0, 3), x.left(7, 0));
    }
}
