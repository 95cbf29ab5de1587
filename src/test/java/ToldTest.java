/** Promises 1 to 11: a new object, the text, and what is told. */
public final class ToldTest {
    private static final String FOUR = "picture a;picture bb;picture ccc;picture ddddd;thing comes;thing goes;thing passes;thing wears";

    public static void main(String[] args) {
        newObject();
        write();
        erase();
        faultInTokens();
        faultAtTheEnd();
        faultInBounds();
        faultByWhatIsTold();
        album();
        albumClause();
        find();
        picture();
        thing();
        piece();
        told();
        sun();
        Due.end();
    }

    private static void newObject() {
        AlbumHours x = new AlbumHours();
        int[] due = {0, 0, 0, 0, 24, 4, 5, 0, 0, 0};
        for (int what = 0; what < due.length; what++) Due.is("1: count(" + what + ")", x.count(what), due[what]);
        Due.is("1: latest()", x.latest(), 0);
        Due.is("1: orders()", x.orders(), 1);
        Due.is("1: drop(0)", x.drop(0), Due.NULL);
        Due.is("1: drop(1)", x.drop(1), Due.NULL);
        Due.is("1: drop(2)", x.drop(2), Due.NULL);
        Due.is("1: back(0)", x.back(0), Due.NOT);
    }

    private static void write() {
        AlbumHours x = new AlbumHours();
        Due.is("2: write(-1)", x.write(-1), Due.OUTSIDE);
        Due.is("2: write(256)", x.write(256), Due.OUTSIDE);
        Due.is("2: write(0)", x.write(0), 1);
        Due.is("2: write(255)", x.write(255), 2);
        for (int i = 3; i <= 200; i++) Due.is("2: write, the " + i + "th", x.write('a'), i);
        Due.is("2: a 201st letter", x.write('a'), Due.FULL);
        Due.is("2: a 201st that is no letter", x.write(256), Due.OUTSIDE);
        Due.is("2: count(9)", x.count(9), 200);
        x.erase();
        Due.is("2: write, once it is empty", x.write('a'), 1);
    }

    private static void erase() {
        AlbumHours x = new AlbumHours();
        Due.is("3: erase() of nothing", x.erase(), 0);
        Due.write(x, "picture");
        Due.is("3: erase()", x.erase(), 7);
        Due.is("3: count(9)", x.count(9), 0);
        Due.is("3: nothing is left", x.fault(), 0);
    }

    private static void faultInTokens() {
        String told = "";
        Due.fault(told, "", 0);
        Due.fault(told, "   ", 3);
        Due.fault(told, "album", Due.NONE);
        Due.fault(told, "  album  ", Due.NONE);
        Due.fault(told, " albums", 1);
        Due.fault(told, " Album", 1);
        Due.fault(told, "alb um", 0);
        Due.fault(told, "elbum", 0);
        Due.fault(told, "albun", 0);
        Due.fault(told, "album;", 6);
        Due.fault(told, "album ; ", 8);
        Due.fault(told, "album;;album", 6);
        Due.fault(told, ";album", 0);
        Due.fault(told, "album album", 6);
        Due.fault(told, "album\t", 5);
        Due.fault(told, "album 7", 6);
        Due.fault(told, "album" + (char) 0, 5);
        Due.fault(told, "sun18 1 1;picture a;point0 0 0;point 0 24 9;long 0 000 099", Due.NONE);
        Due.fault(told, "sun 18 1", 8);
        Due.fault(told, "sun a 1 1", 4);
        Due.fault(told, "sun 18 1 1 1", 11);
        Due.fault(told, "sun 18,1 1", 6);
        Due.fault(told, "picture a7", 9);
        Due.fault(told, "picture 7", 8);
        Due.fault(told, "picture A", 8);
        Due.fault(told, "picture", 7);
        Due.fault(told, "picturea", 0);
        Due.fault(told, "picture album;picture sun;picture see", Due.NONE);
        Due.fault(told, "thing comes;thing goes;thing passes;thing wears", Due.NONE);
        Due.fault(told, "thing come", 6);
        Due.fault(told, "thing picture", 6);
        Due.fault(told, "thing", 5);
        String many = "album";
        for (int i = 1; i < 24; i++) many += ";album";
        Due.fault(told, many, Due.NONE);
        Due.fault(told, many + " ;album", 144);
        Due.fault(told, many + ";", 143);
        Due.fault(told, many + " album", 144);
    }

    private static void faultAtTheEnd() {
        String told = "picture a;thing wears";
        String[] whole = {"sun 18 1 1", "point 0 1 1", "long 0 1 1", "see 0 0 1", "picture b", "thing goes"};
        for (String text : whole) {
            Due.fault(told, text, Due.NONE);
            for (int end = text.lastIndexOf(' '); end > 0; end = text.lastIndexOf(' ', end - 1)) {
                Due.fault(told, text.substring(0, end), end);
                Due.fault(told, "album;" + text.substring(0, end) + "  ;", text.startsWith("point 0") && end > 5
                        || text.startsWith("long 0") && end > 4 || text.startsWith("see 0") && end > 3 ? 6 + text.indexOf('0') : 8 + end);
            }
        }
    }

    private static void faultInBounds() {
        String told = "";
        Due.fault(told, "sun 17 1 1", 4);
        Due.fault(told, "sun 30 9 40", Due.NONE);
        Due.fault(told, "sun 31 9 40", 4);
        Due.fault(told, "sun 30 0 40", 7);
        Due.fault(told, "sun 30 10 40", 7);
        Due.fault(told, "sun 30 9 0", 9);
        Due.fault(told, "sun 30 9 41", 9);
        Due.fault(told, "sun 030 009 040", Due.NONE);
        Due.fault(told, "sun 0030 9 40", 4);
        Due.fault(told, "sun 30 9 99999999999", 9);
        Due.fault(told, "picture abcde", Due.NONE);
        Due.fault(told, "picture abcdef", 8);
        Due.fault(told, "picture a;point 1 0 0", 16);
        Due.fault(told, "picture a;point 0 24 9", Due.NONE);
        Due.fault(told, "picture a;point 0 25 9", 18);
        Due.fault(told, "picture a;point 0 24 10", 21);
        Due.fault(told, "picture a;long 0 999 99", Due.NONE);
        Due.fault(told, "picture a;long 0 1000 99", 17);
        Due.fault(told, "picture a;long 0 999 100", 21);
        Due.fault(told, "picture a;thing comes;see 0 0 1", Due.NONE);
        Due.fault(told, "picture a;thing comes;see 0 0 2", 30);
        Due.fault(told, "picture a;thing goes;see 0 0 2", 29);
        Due.fault(told, "picture a;thing passes;see 0 0 2", 31);
        Due.fault(told, "picture a;thing wears;see 0 0 9", Due.NONE);
        Due.fault(told, "picture a;thing wears;see 0 0 10", 30);
        Due.fault(told, "picture a;thing wears;see 0 1 0", 28);
        Due.fault(told, "picture a;thing wears;see 1 0 0", 26);
        Due.fault(told, "picture a;thing wears;see 0 0", 29);
    }

    private static void faultByWhatIsTold() {
        String told = "picture a;thing wears";
        Due.fault(told, "picture a", 8);
        Due.fault(told, "picture b;picture b", 18);
        Due.fault(told, "album;picture a", Due.NONE);
        Due.fault(told, "see 0 0 9", Due.NONE);
        Due.fault(told, "see 1 0 9;picture b", 4);
        Due.fault(told, "picture b;see 1 0 9", Due.NONE);
        Due.fault(told, "album;see 0 0 9", 10);
        Due.fault(told, "album;picture c;see 0 0 9", 22);
        Due.fault(told, "album;picture c;thing goes;see 0 0 9", 35);
        told += ";picture b;picture c;picture d;picture e;picture f;thing goes;thing goes;thing goes;thing goes";
        Due.fault(told, "picture g;picture h", 10);
        Due.fault(told, "thing goes; thing goes", 12);
        told += ";picture g;thing comes";
        Due.fault(told, " picture", 1);
        Due.fault(told, " picture a", 1);
        Due.fault(told, "thing", 0);
        Due.fault(told, "point 6 0 0;see 6 5 1", Due.NONE);
        Due.fault(told, "album;picture g", Due.NONE);
        AlbumHours x = Due.of(told);
        Due.write(x, "album;picture g");
        x.fault();
        Due.is("4: fault() changes nothing", x.count(0), 7);
    }

    private static void album() {
        AlbumHours x = new AlbumHours();
        Due.write(x, FOUR);
        Due.is("5: album()", x.album(), 8);
        Due.is("5: the text is empty", x.count(9), 0);
        Due.is("5: count(0)", x.count(0), 4);
        Due.is("5: count(1)", x.count(1), 4);
        Due.is("5: of an empty text", x.album(), Due.NOT);
        x.see(0, 0, 1);
        x.keep(0);
        x.strip(1, 3);
        x.set(1, 0, 5);
        x.sum(1);
        Due.write(x, "picture e;sun 20 9 40;point 4 3 2;point 0 7 0;see 0 0 0;point 4 4 1;long 0");
        Due.is("5: with a fault", x.album(), Due.NOT);
        Due.is("5: what has a fault is not done", x.count(0) * 1000 + x.count(4) * 10 + x.count(2), 4241);
        Due.is("5: nor is it emptied", x.count(9), 74);
        Due.is("5: it can be undone yet", x.count(8), 1);
        Due.is("5: the strips stand yet", x.count(7), 3);
        Due.write(x, " 999 1");
        Due.is("5: once it is right", x.album(), 7);
        Due.is("5: what there was stays", x.count(0), 5);
        Due.is("5: pieces", x.count(2), 4);
        Due.is("5: a piece told otherwise stays where it is", x.piece(0, 2, 2) * 10 + x.piece(0, 2, 0), 0);
        Due.is("5: also one of the text", x.piece(4, 0, 2) * 100 + x.piece(4, 0, 0) * 10 + x.piece(4, 0, 1), 141);
        Due.is("5: the next", x.piece(0, 0, 2), 2);
        Due.is("5: the sun", x.count(4) * 1000 + x.count(5) * 100 + x.count(6), 20940);
        Due.is("5: nothing can be undone", x.undo(), Due.NOT);
        Due.is("5: nothing is kept", x.back(0), Due.NOT);
        Due.is("5: strips are missing", x.bits(1, 0), Due.NULL);
        Due.is("5: no places", x.count(7), 0);
        Due.is("5: the latest stays", x.latest(), 5);
    }

    private static void albumClause() {
        AlbumHours x = Due.of(FOUR + ";see 0 0 1;sun 20 9 40");
        x.strip(0, 1);
        x.set(0, 0, 9);
        x.sum(0);
        Due.tell(x, "picture q;album;picture z;picture q");
        Due.is("5: album: pictures", x.count(0), 2);
        Due.is("5: album: things", x.count(1), 0);
        Due.is("5: album: pieces", x.count(2), 0);
        Due.is("5: album: noon", x.count(4), 24);
        Due.is("5: album: grows", x.count(5), 4);
        Due.is("5: album: low", x.count(6), 5);
        Due.is("5: album: the latest stays", x.latest(), 9);
        Due.tell(x, "album");
        Due.is("5: album alone", x.count(0), 0);
        Due.is("5: of no pictures there is one order", x.orders(), 1);
    }

    private static void find() {
        AlbumHours x = Due.of(FOUR);
        String[] texts = {"a", "bb", " b b ", "ccc", "ddddd", "d d d d d", "b", "aa", "dddddd", "", "  ", "bb;", "B", "picture a",
            "" + (char) 162};
        int[] due = {0, 1, 1, 2, 3, 3, -1, -1, -1, -1, -1, -1, -1, -1, -1};
        for (int i = 0; i < texts.length; i++) {
            x.erase();
            Due.write(x, texts[i]);
            Due.is("6: find() of '" + texts[i] + "'", x.find(), due[i]);
            Due.is("6: the text stays", x.count(9), texts[i].length());
        }
    }

    private static void picture() {
        AlbumHours x = Due.of(FOUR + ";point 0 12 2;long 1 9 4;point 2 0 3;long 2 100 48;point 3 1 0;long 3 0 0;see 0 3 1;see 1 3 2");
        int[][] due = {{1, 2, 5, 22, 26, 0}, {2, 2, 5, 22, 26, 1}, {3, 2, 3, 13, 15, 0}, {5, 2, 0, -1, -1, 0}};
        for (int p = 0; p < 4; p++) {
            for (int what = 0; what < 6; what++) Due.is("7: picture(" + p + ", " + what + ")", x.picture(p, what), due[p][what]);
        }
        Due.tell(x, "see 2 3 2;see 3 3 5;see 3 0 0;see 0 0 1;picture e");
        Due.is("7: before itself, too", x.picture(0, 5), 4);
        Due.is("7: by others that it is before", x.picture(1, 5), 4);
        Due.is("7: nobody is before one that nothing is told of", x.picture(4, 5), 0);
        x.see(4, 3, 9);
        Due.is("7: not itself, as it is before nobody", x.picture(4, 5), 4);
        x.strike(4, 5);
        Due.is("7: all slots without a shadow", x.picture(4, 2) * 10000 + x.picture(4, 3) * 100 + x.picture(4, 4), 480047);
        Due.is("7: no pieces", x.picture(4, 1), 0);
        Due.is("7: picture(5, 0)", x.picture(5, 0), Due.UNKNOWN);
        Due.is("7: picture(-1, 9)", x.picture(-1, 9), Due.UNKNOWN);
        Due.is("7: picture(0, 6)", x.picture(0, 6), Due.OUTSIDE);
        Due.is("7: picture(0, -1)", x.picture(0, -1), Due.OUTSIDE);
    }

    private static void thing() {
        AlbumHours x = Due.of(FOUR + ";see 0 0 1;see 1 0 0;see 3 0 1;see 2 3 0;see 3 3 9");
        int[][] due = {{0, 11, 9}, {1, 0, 0}, {2, 0, 0}, {3, 12, 8}};
        for (int t = 0; t < 4; t++) {
            for (int what = 0; what < 3; what++) Due.is("8: thing(" + t + ", " + what + ")", x.thing(t, what), due[t][what]);
        }
        Due.is("8: thing(4, 0)", x.thing(4, 0), Due.UNKNOWN);
        Due.is("8: thing(-1, 3)", x.thing(-1, 3), Due.UNKNOWN);
        Due.is("8: thing(0, 3)", x.thing(0, 3), Due.OUTSIDE);
        Due.is("8: thing(0, -1)", x.thing(0, -1), Due.OUTSIDE);
    }

    private static void piece() {
        AlbumHours x = Due.of(FOUR + ";long 3 400 7;point 1 5 2;see 2 3 8");
        int[][] due = {{3, 1, 400, 7, 0}, {1, 0, 5, 2, 1}, {2, 5, 8, 0, 2}, {0, 0, -1, -1, -1}, {3, 5, -1, -1, -1}};
        for (int[] d : due) {
            for (int what = 0; what < 3; what++) {
                Due.is("9: piece(" + d[0] + ", " + d[1] + ", " + what + ")", x.piece(d[0], d[1], what), d[2 + what]);
            }
        }
        Due.is("9: no picture", x.piece(4, 9, 9), Due.UNKNOWN);
        Due.is("9: a matter of no thing", x.piece(0, 6, 0), Due.OUTSIDE);
        Due.is("9: matter -1", x.piece(0, -1, 0), Due.OUTSIDE);
        Due.is("9: what 3, no piece", x.piece(0, 0, 3), Due.OUTSIDE);
        Due.is("9: what -1", x.piece(3, 1, -1), Due.OUTSIDE);
    }

    private static void told() {
        AlbumHours x = Due.of(FOUR + ";long 3 400 7;point 1 5 2;see 2 3 8;long 3 4 7");
        int[][] due = {{3, 1}, {1, 0}, {2, 5}, {-1, -1}, {-1, -1}};
        for (int k = 0; k < due.length; k++) {
            for (int what = 0; what < 2; what++) Due.is("10: told(" + k + ", " + what + ")", x.told(k, what), due[k][what]);
        }
        Due.is("10: far beyond", x.told(Integer.MAX_VALUE, 0), Due.NONE);
        Due.is("10: told(-1, 0)", x.told(-1, 0), Due.OUTSIDE);
        Due.is("10: told(9, 2)", x.told(9, 2), Due.OUTSIDE);
        Due.is("10: told(0, -1)", x.told(0, -1), Due.OUTSIDE);
    }

    private static void sun() {
        AlbumHours x = Due.of("sun 18 9 40");
        int[][] due = {{5, -1, -1}, {6, 0, 364}, {17, 11, 42}, {18, 12, 40}, {19, 13, 42}, {21, 15, 60}, {30, 24, 364}, {31, -1, -1}};
        for (int[] d : due) {
            Due.is("11: sun(" + d[0] + ", 0)", x.sun(d[0], 0), d[1]);
            Due.is("11: sun(" + d[0] + ", 1)", x.sun(d[0], 1), d[2]);
        }
        Due.tell(x, "sun 30 1 1");
        Due.is("11: sun(42, 1)", x.sun(42, 1), 37);
        Due.is("11: sun(31, 1)", x.sun(31, 1), 1);
        Due.is("11: sun(43, 0)", x.sun(43, 0), Due.NONE);
        Due.is("11: sun(0, 0)", x.sun(0, 0), Due.NONE);
        Due.is("11: sun(47, 1)", x.sun(47, 1), Due.NONE);
        Due.is("11: sun(-1, 0)", x.sun(-1, 0), Due.OUTSIDE);
        Due.is("11: sun(48, 0)", x.sun(48, 0), Due.OUTSIDE);
        Due.is("11: sun(0, 2)", x.sun(0, 2), Due.OUTSIDE);
        Due.is("11: sun(30, -1)", x.sun(30, -1), Due.OUTSIDE);
    }
}
