/** Promises 12 to 18: pieces told, told otherwise, struck out, undone, kept. */
public final class DoneTest {
    private static final String THREE = "picture a;picture b;picture c;thing comes;thing goes;thing passes;thing wears";

    public static void main(String[] args) {
        point();
        length();
        see();
        toldOtherwise();
        strike();
        strikeOfAll();
        undo();
        undoEight();
        keepAndBack();
        keptUntilAText();
        Due.end();
    }

    private static void point() {
        AlbumHours x = Due.of(THREE);
        Due.is("12: point(0, 0, 0)", x.point(0, 0, 0), 1);
        Due.is("12: point(2, 24, 9)", x.point(2, 24, 9), 2);
        Due.is("12: its value", x.piece(2, 0, 0), 24);
        Due.is("12: its slack", x.piece(2, 0, 1), 9);
        Due.is("12: point(3, 99, 99)", x.point(3, 99, 99), Due.UNKNOWN);
        Due.is("12: point(-1, 0, 0)", x.point(-1, 0, 0), Due.UNKNOWN);
        Due.is("12: value 25", x.point(1, 25, 0), Due.OUTSIDE);
        Due.is("12: value -1", x.point(1, -1, 0), Due.OUTSIDE);
        Due.is("12: slack 10", x.point(1, 0, 10), Due.OUTSIDE);
        Due.is("12: slack -1", x.point(1, 0, -1), Due.OUTSIDE);
        Due.is("12: what is refused is nothing to undo", x.count(8), 2);
        Due.is("12: and no piece", x.count(2), 2);
        Due.is("12: one slot", x.picture(0, 2) * 100 + x.picture(0, 3), 112);
        Due.is("12: not beyond the day's end", x.picture(2, 2) * 100 + x.picture(2, 4), 1036);
    }

    private static void length() {
        AlbumHours x = Due.of(THREE);
        Due.is("13: length(0, 0, 0)", x.length(0, 0, 0), 1);
        Due.is("13: length(2, 999, 99)", x.length(2, 999, 99), 2);
        Due.is("13: its value", x.piece(2, 1, 0), 999);
        Due.is("13: its slack", x.piece(2, 1, 1), 99);
        Due.is("13: length(3, -1, 0)", x.length(3, -1, 0), Due.UNKNOWN);
        Due.is("13: value 1000", x.length(1, 1000, 0), Due.OUTSIDE);
        Due.is("13: value -1", x.length(1, -1, 0), Due.OUTSIDE);
        Due.is("13: slack 100", x.length(1, 0, 100), Due.OUTSIDE);
        Due.is("13: slack -1", x.length(1, 0, -1), Due.OUTSIDE);
        Due.is("13: no slot has so short a shadow", x.picture(0, 2), 0);
        x.length(1, 14, 0);
        Due.is("13: both before noon and behind it", x.picture(1, 2) * 10000 + x.picture(1, 3) * 100 + x.picture(1, 4), 22127);
        x.point(1, 20, 6);
        Due.is("13: with a point, too", x.picture(1, 2) * 10000 + x.picture(1, 3) * 100 + x.picture(1, 4), 12727);
    }

    private static void see() {
        AlbumHours x = Due.of(THREE);
        Due.is("14: see(0, 0, 0)", x.see(0, 0, 0), 1);
        Due.is("14: see(2, 3, 9)", x.see(2, 3, 9), 2);
        Due.is("14: its value", x.piece(2, 5, 0), 9);
        Due.is("14: its slack", x.piece(2, 5, 1), 0);
        Due.is("14: no such picture", x.see(3, 0, 5), Due.UNKNOWN);
        Due.is("14: no such thing", x.see(0, 4, 5), Due.UNKNOWN);
        Due.is("14: thing -1", x.see(0, -1, 0), Due.UNKNOWN);
        Due.is("14: thing, the greatest number", x.see(0, Integer.MAX_VALUE, 0), Due.UNKNOWN);
        for (int t = 0; t < 3; t++) Due.is("14: value 2 of thing " + t, x.see(0, t, 2), Due.OUTSIDE);
        Due.is("14: value 10 of what wears", x.see(0, 3, 10), Due.OUTSIDE);
        Due.is("14: value -1", x.see(0, 3, -1), Due.OUTSIDE);
        Due.is("14: count(8)", x.count(8), 2);
        Due.is("14: no thing at all", Due.of("picture a").see(0, 0, 0), Due.UNKNOWN);
    }

    private static void toldOtherwise() {
        AlbumHours x = Due.of(THREE);
        x.see(0, 0, 0);
        x.point(0, 3, 1);
        x.length(0, 3, 1);
        Due.is("14: told otherwise", x.see(0, 0, 1), 3);
        Due.is("12: told otherwise", x.point(0, 4, 2), 3);
        Due.is("13: told otherwise", x.length(0, 5, 3), 3);
        int[][] due = {{1, 0, 0}, {4, 2, 1}, {5, 3, 2}};
        int[] matters = {2, 0, 1};
        for (int i = 0; i < 3; i++) {
            for (int what = 0; what < 3; what++) Due.is("12 to 14: piece(0, " + matters[i] + ", " + what + ")", x.piece(0, matters[i], what), due[i][what]);
        }
    }

    private static void strike() {
        AlbumHours x = Due.of(THREE);
        x.see(0, 0, 0);
        x.point(1, 3, 1);
        x.length(2, 3, 1);
        Due.is("15: strike(1, 0)", x.strike(1, 0), 2);
        Due.is("15: the later one has a number less", x.piece(2, 1, 2), 1);
        Due.is("15: the earlier one stays", x.piece(0, 2, 2), 0);
        Due.is("15: it is gone", x.piece(1, 0, 0), Due.NONE);
        Due.is("15: strike(1, 0) again", x.strike(1, 0), Due.NOT);
        Due.is("15: a matter of no thing", x.strike(0, 6), Due.OUTSIDE);
        Due.is("15: matter -1", x.strike(0, -1), Due.OUTSIDE);
        Due.is("15: no picture", x.strike(3, 6), Due.UNKNOWN);
        Due.is("15: count(8)", x.count(8), 4);
        x.point(1, 3, 1);
        Due.is("15: told again it is the last", x.piece(1, 0, 2), 2);
        Due.is("15: strike the last", x.strike(1, 0), 2);
        Due.is("15: strike the first", x.strike(0, 2), 1);
        Due.is("15: the only one left", x.told(0, 0) * 10 + x.told(0, 1), 21);
        Due.is("15: strike it", x.strike(2, 1), 0);
        Due.is("15: none left", x.told(0, 0), Due.NONE);
    }

    private static void strikeOfAll() {
        AlbumHours x = Due.of("picture a;picture b;picture c;picture d;picture e;picture f;picture g");
        Due.tell(x, "thing comes;thing comes;thing goes;thing goes;thing passes;thing wears");
        for (int p = 6; p >= 0; p--) {
            for (int t = 5; t >= 0; t--) x.see(p, t, 1);
            x.length(p, 5, 1);
            x.point(p, 5, 1);
        }
        Due.is("14: all pieces that there can be", x.count(2), 56);
        Due.is("15: the first of all", x.strike(6, 7), 55);
        for (int k = 0; k < 55; k++) {
            int p = x.told(k, 0);
            int m = x.told(k, 1);
            Due.is("15: the " + k + "th", p * 8 + m, 54 - k);
            Due.is("15: its number", x.piece(p, m, 2), k);
        }
        Due.is("16: undone", x.undo(), 7);
        Due.is("16: the last has its number again", x.piece(0, 0, 2), 55);
        Due.is("15: the last of all", x.strike(0, 0), 55);
        Due.is("15: the one ahead of it", x.piece(0, 1, 2), 54);
    }

    private static void undo() {
        AlbumHours x = Due.of(THREE);
        Due.is("16: nothing yet", x.undo(), Due.NOT);
        x.see(0, 0, 0);
        x.see(1, 0, 1);
        x.see(1, 0, 1);
        x.strike(0, 2);
        x.see(1, 0, 0);
        x.point(9, 0, 0);
        x.strike(0, 2);
        Due.is("16: told otherwise, undone", x.undo(), 4);
        Due.is("16: its value as ahead of it", x.piece(1, 2, 0), 1);
        Due.is("16: struck out, undone", x.undo(), 3);
        Due.is("16: with its number", x.piece(0, 2, 2), 0);
        Due.is("16: and that of the later one", x.piece(1, 2, 2), 1);
        Due.is("16: the orders too", x.orders(), 3);
        Due.is("16: what made nothing other, undone", x.undo(), 2);
        Due.is("16: pieces", x.count(2), 2);
        Due.is("16: told, undone", x.undo(), 1);
        Due.is("16: pieces", x.count(2), 1);
        Due.is("16: the orders then", x.orders(), 6);
        Due.is("16: the last one", x.undo(), 0);
        Due.is("16: pieces", x.count(2), 0);
        Due.is("16: none", x.undo(), Due.NOT);
    }

    private static void undoEight() {
        AlbumHours x = Due.of(THREE);
        for (int v = 0; v < 10; v++) {
            x.see(0, 3, v);
            Due.is("16: can be undone", x.count(8), Math.min(8, v + 1));
        }
        x.undo();
        x.undo();
        x.point(0, 1, 1);
        Due.is("16: seven by now", x.count(8), 7);
        for (int left = 6; left >= 0; left--) Due.is("16: undo()", x.undo(), left);
        Due.is("16: the first two stay", x.piece(0, 5, 0), 1);
        Due.is("16: no more", x.undo(), Due.NOT);
    }

    private static void keepAndBack() {
        AlbumHours x = Due.of(THREE);
        Due.is("18: nothing was kept", x.back(0), Due.NOT);
        x.see(2, 3, 4);
        x.see(1, 0, 1);
        Due.is("17: keep(0)", x.keep(0), 2);
        Due.is("17: keep(2)", x.keep(2), Due.UNKNOWN);
        Due.is("17: keep(-1)", x.keep(-1), Due.UNKNOWN);
        Due.is("18: back(2)", x.back(2), Due.UNKNOWN);
        Due.is("18: back(-1)", x.back(-1), Due.UNKNOWN);
        Due.is("18: nothing was kept as 1", x.back(1), Due.NOT);
        Due.is("17: it is nothing to undo, and ends nothing", x.count(8), 2);
        x.strike(2, 5);
        x.see(0, 0, 0);
        x.see(1, 0, 0);
        Due.is("17: keep(1)", x.keep(1), 2);
        Due.is("18: orders by 1", x.orders(), 6);
        Due.is("18: back(0)", x.back(0), 2);
        Due.is("18: orders by 0", x.orders(), 6);
        x.see(0, 0, 0);
        Due.is("18: orders by more", x.orders(), 3);
        x.back(0);
        Due.is("18: orders by 0 again", x.orders(), 6);
        Due.is("18: nothing can be undone", x.undo(), Due.NOT);
        Due.is("18: numbers as they were", x.piece(2, 5, 2) * 10 + x.piece(1, 2, 2), 1);
        Due.is("18: values as they were", x.piece(2, 5, 0) * 10 + x.piece(1, 2, 0), 41);
        Due.is("18: back(1)", x.back(1), 2);
        Due.is("18: numbers of 1", x.piece(1, 2, 2) * 10 + x.piece(0, 2, 2), 1);
        x.strike(0, 2);
        Due.is("18: back(1) again", x.back(1), 2);
        x.strike(0, 2);
        Due.is("17: kept anew", x.keep(0), 1);
        x.see(0, 0, 1);
        Due.is("18: back(0)", x.back(0), 1);
        Due.is("18: what stood there before is gone", x.piece(2, 5, 0), Due.NONE);
    }

    private static void keptUntilAText() {
        AlbumHours x = Due.of(THREE);
        Due.is("17: no pieces are kept, too", x.keep(1), 0);
        x.see(0, 0, 1);
        Due.is("18: back to none", x.back(1), 0);
        Due.write(x, "albun");
        x.album();
        Due.is("18: a text with a fault ends nothing", x.back(1), 0);
        Due.tell(x, "see 0 0 1");
        Due.is("18: a text does", x.back(1), Due.NOT);
    }
}
