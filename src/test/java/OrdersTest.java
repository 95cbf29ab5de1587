/** Promises 19 to 24: what is before what, the orders, the slots left. */
public final class OrdersTest {
    private static final String FOUR = "picture a;picture b;picture c;picture d";

    public static void main(String[] args) {
        before();
        ordersOfFew();
        ordersByKinds();
        ordersByPassing();
        ordersBySlots();
        ordersOfSeven();
        ordersOfAnotherAlbum();
        order();
        place();
        often();
        left();
        leftByOrders();
        Due.end();
    }

    private static void before() {
        AlbumHours x = Due.of(FOUR + ";thing comes;thing goes;thing passes;thing wears");
        x.see(0, 0, 0);
        x.see(1, 0, 1);
        x.see(1, 1, 1);
        x.see(2, 1, 0);
        Due.is("19: it comes", x.before(0, 1), 1);
        Due.is("19: not the other way", x.before(1, 0), 0);
        Due.is("19: it goes", x.before(1, 2), 1);
        Due.is("19: over another one", x.before(0, 2), 1);
        Due.is("19: nothing told", x.before(0, 3), 0);
        x.see(3, 2, 1);
        x.see(0, 2, 0);
        Due.is("19: what passes puts nobody ahead", x.before(0, 3) + x.before(3, 0), 0);
        x.see(3, 3, 4);
        x.see(0, 3, 5);
        Due.is("19: it wears", x.before(3, 2), 1);
        x.see(0, 3, 4);
        Due.is("19: alike", x.before(3, 0) + x.before(0, 3), 0);
        x.see(0, 3, 9);
        x.see(2, 3, 0);
        Due.is("19: round about", x.before(2, 0), 1);
        Due.is("19: and back", x.before(0, 2), 1);
        Due.is("19: the same twice", x.before(0, 0), Due.UNKNOWN);
        Due.is("19: no such one", x.before(4, 0), Due.UNKNOWN);
        Due.is("19: no such other", x.before(0, -1), Due.UNKNOWN);
    }

    private static void ordersOfFew() {
        AlbumHours x = new AlbumHours();
        Due.is("20: of no pictures", x.orders(), 1);
        Due.is("21: no place", x.order(0, 0), Due.NONE);
        Due.tell(x, "picture a");
        Due.orders(x, "0");
        Due.tell(x, "picture b");
        Due.orders(x, "01 10");
        Due.tell(x, "picture c");
        Due.orders(x, "012 021 102 120 201 210");
    }

    private static void ordersByKinds() {
        AlbumHours x = Due.of("picture a;picture b;picture c;thing comes;thing goes;thing wears;see 2 0 0;see 0 0 1");
        Due.orders(x, "120 201 210");
        Due.tell(x, "see 1 1 1;see 2 1 0");
        Due.orders(x, "120");
        Due.tell(x, "see 2 2 7;see 1 2 6");
        Due.orders(x, "120");
        Due.tell(x, "see 0 2 5");
        Due.is("20: round about", x.orders(), 0);
        Due.orders(x, "");
        Due.is("21: none", x.order(0, 0), Due.NONE);
    }

    private static void ordersByPassing() {
        AlbumHours x = Due.of(FOUR + ";thing passes;see 0 0 1;see 1 0 0;see 2 0 1");
        Due.orders(x, "0213 0231 0321 1023 1032 1203 1230 1302 1320 2013 2031 2301 3021 3102 3120 3201");
        Due.tell(x, "see 3 0 0");
        Due.orders(x, "0213 0231 1023 1203 1302 1320 2013 2031 3021 3102 3120 3201");
    }

    private static void ordersBySlots() {
        AlbumHours x = Due.of("picture a;picture b;picture c;point 0 5 1;point 1 5 0;point 2 6 0");
        Due.orders(x, "012");
        Due.tell(x, "point 0 6 1");
        Due.orders(x, "120");
        Due.tell(x, "point 0 6 2;point 2 6 1");
        Due.orders(x, "012 102 120");
        Due.tell(x, "point 0 5 0");
        Due.orders(x, "");
    }

    private static void ordersOfSeven() {
        AlbumHours x = Due.of(FOUR + ";picture e;picture f;picture g;thing wears");
        Due.is("20: of seven", x.orders(), 5040);
        int[] first = {0, 1, 2, 3, 4, 5, 6};
        for (int i = 0; i < 7; i++) {
            Due.is("21: the first", x.order(0, i), first[i]);
            Due.is("21: the last", x.order(5039, i), first[6 - i]);
        }
        Due.is("21: the 721st begins with 1", x.order(720, 0), 1);
        Due.is("21: and goes on with 0", x.order(720, 1), 0);
        for (int p = 0; p < 7; p++) x.see(p, 0, 9 - p);
        Due.orders(x, "6543210");
        for (int p = 0; p < 7; p++) x.strike(p, 2);
        for (int p = 0; p < 7; p++) x.point(p, 3, 3);
        Due.is("20: as many slots as pictures", x.orders(), 5040);
        x.point(0, 0, 3);
        Due.is("20: of the first four slots", x.orders(), 4 * 720);
    }

    private static void ordersOfAnotherAlbum() {
        AlbumHours x = Due.of("picture a;picture b;picture c;thing passes;see 0 0 1;see 1 0 0;see 2 0 1;point 0 1 0");
        Due.is("20: of what is told", x.orders(), 4);
        Due.tell(x, "album;picture a;picture b;picture c");
        Due.is("20: of the same, of which nothing is told", x.orders(), 6);
        Due.tell(x, "thing comes;thing goes");
        Due.is("20: nor by what comes", x.orders(), 6);
    }

    private static void order() {
        AlbumHours x = Due.of("picture a;picture b");
        Due.is("21: order(1, 0)", x.order(1, 0), 1);
        Due.is("21: order(1, 1)", x.order(1, 1), 0);
        Due.is("21: order(1, 2)", x.order(1, 2), Due.NONE);
        Due.is("21: order(2, 0)", x.order(2, 0), Due.NONE);
        Due.is("21: far beyond", x.order(Integer.MAX_VALUE, Integer.MAX_VALUE), Due.NONE);
        Due.is("21: order(-1, 5)", x.order(-1, 5), Due.OUTSIDE);
        Due.is("21: order(5, -1)", x.order(5, -1), Due.OUTSIDE);
    }

    private static void place() {
        AlbumHours x = Due.of(FOUR + ";thing comes;see 0 0 0;see 1 0 1;see 2 0 1");
        int[][] due = {{0, 1}, {1, 3}, {1, 3}, {0, 3}};
        for (int p = 0; p < 4; p++) {
            for (int what = 0; what < 2; what++) Due.is("22: place(" + p + ", " + what + ")", x.place(p, what), due[p][what]);
        }
        Due.is("22: no picture", x.place(4, 0), Due.UNKNOWN);
        Due.is("22: what 2", x.place(0, 2), Due.OUTSIDE);
        Due.is("22: what -1", x.place(0, -1), Due.OUTSIDE);
        placeBySlots();
        placeOfTwoKinds();
        x.length(3, 0, 0);
        Due.is("22: no orders", x.place(0, 0), Due.NOT);
        Due.is("22: no orders, what 2", x.place(0, 2), Due.OUTSIDE);
        Due.is("22: no orders, no picture", x.place(-1, 0), Due.UNKNOWN);
    }

    private static void places(AlbumHours x, int[][] due) {
        for (int p = 0; p < due.length; p++) {
            for (int what = 0; what < 2; what++) Due.is("22: place(" + p + ", " + what + ")", x.place(p, what), due[p][what]);
        }
    }

    private static void placeBySlots() {
        AlbumHours x = Due.of("picture a;picture b;point 0 8 0;point 1 7 0");
        places(x, new int[][] {{1, 1}, {0, 0}});
    }

    private static void placeOfTwoKinds() {
        AlbumHours x = Due.of("picture a;picture b;picture c;thing passes;thing comes;see 0 0 1;see 1 0 0;see 2 0 1;see 1 1 0;see 2 1 1");
        Due.orders(x, "102 120");
        places(x, new int[][] {{1, 2}, {0, 0}, {1, 2}});
        Due.is("24: the first slot is that of another one", x.left(0, 0) * 100 + x.left(0, 1), 4701);
        Due.is("23: beside what passes", x.often(0, 2), 1);
        Due.is("27: beside what passes", x.would(0, 0, 3), 2);
    }

    private static void often() {
        AlbumHours x = Due.of(FOUR + ";thing comes;see 0 0 0;see 1 0 1;see 2 0 1");
        Due.is("23: always", x.often(0, 1), 8);
        Due.is("23: never", x.often(1, 0), 0);
        Due.is("23: as often as not", x.often(1, 2), 4);
        Due.is("23: mostly", x.often(0, 3), 6);
        Due.is("23: else", x.often(3, 0), 2);
        Due.is("23: the orders are as they were", x.orders(), 8);
        Due.is("23: the same twice", x.often(2, 2), Due.UNKNOWN);
        Due.is("23: no such one", x.often(-1, 0), Due.UNKNOWN);
        Due.is("23: no such other", x.often(0, 4), Due.UNKNOWN);
        x.length(3, 0, 0);
        Due.is("23: no orders", x.often(0, 1), 0);
    }

    private static void left() {
        AlbumHours x = Due.of("picture a;picture b;thing comes;see 0 0 0;see 1 0 1;point 0 10 3;point 1 8 2");
        int[][] due = {{3, 19, 21}, {3, 20, 22}};
        for (int p = 0; p < 2; p++) {
            for (int what = 0; what < 3; what++) Due.is("24: left(" + p + ", " + what + ")", x.left(p, what), due[p][what]);
        }
        Due.is("24: no picture", x.left(2, 9), Due.UNKNOWN);
        Due.is("24: what 3", x.left(0, 3), Due.OUTSIDE);
        Due.is("24: what -1", x.left(0, -1), Due.OUTSIDE);
        x.point(1, 7, 0);
        int[] none = {0, Due.NONE, Due.NONE};
        for (int what = 0; what < 3; what++) Due.is("24: no orders, what " + what, x.left(0, what), none[what]);
        x.strike(0, 0);
        x.strike(1, 0);
        Due.is("24: all but the last", x.left(0, 0) * 10000 + x.left(0, 1) * 100 + x.left(0, 2), 470046);
        x.point(1, 5, 0);
        Due.is("24: all ahead of the other's", x.left(0, 0) * 10000 + x.left(0, 1) * 100 + x.left(0, 2), 170016);
        Due.tell(x, "album;picture a");
        int[] all = {48, 0, 47};
        for (int what = 0; what < 3; what++) Due.is("24: one alone, what " + what, x.left(0, what), all[what]);
    }

    private static void leftByOrders() {
        AlbumHours x = Due.of("picture a;picture b;picture c;thing passes;see 0 0 1;see 1 0 0;see 2 0 1;point 0 4 0;point 2 12 0");
        Due.is("24: on either side of two, not between", x.left(1, 0), 16 + 23);
        Due.is("24: the first", x.left(1, 1), 0);
        Due.is("24: the last", x.left(1, 2), 47);
        x.point(1, 12, 9);
        Due.is("24: within the window, too", x.left(1, 0) * 10000 + x.left(1, 1) * 100 + x.left(1, 2), 101533);
        x.length(1, 14, 0);
        Due.is("24: a shadow's two slots, one of them ruled out", x.left(1, 0) * 100 + x.left(1, 1), 127);
        Due.is("24: all orders then", x.orders(), 1);
    }
}
