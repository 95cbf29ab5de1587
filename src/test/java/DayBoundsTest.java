/**
 * Promises 1 and 7 to 11 and the document's sentences on THE DAY, THE SUN, PICTURES, THINGS, PIECES and WINDOWS, each
 * at its bounds: the bound, one below, one above; nothing told yet, as much as can be told. The sentence stands above
 * its test.
 */
public final class DayBoundsTest {
    private static final String SEVEN = "picture a;picture b;picture c;picture d;picture e;picture f;picture g";
    private static final String SIX = "thing comes;thing goes;thing passes;thing wears;thing comes;thing goes";

    public static void main(String[] args) {
        newObject();
        besideAnother();
        slots();
        sunAtFirst();
        upTwelveFromNoon();
        pointFromNoughtToTwentyFour();
        lengthIsCut();
        word();
        piecesOfAPicture();
        windowOfNeither();
        windowByPoint();
        windowByLength();
        windowByBoth();
        windowOfNone();
        windowBySunAlone();
        beforeIt();
        thingNotTold();
        thingByAll();
        valueAboveNought();
        pieceNone();
        pieceAtItsBounds();
        toldNone();
        toldToTheLast();
        refusedPicture();
        refusedThing();
        refusedPiece();
        refusedTold();
        refusedSun();
        Due.end();
    }

    /** AlbumHours(): No pictures, no things: what each call answers then. */
    private static void newObject() {
        AlbumHours x = new AlbumHours();
        for (int what = 0; what < 10; what++) Due.is("1: count(" + what + ")", x.count(what), new int[] {0, 0, 0, 0, 24, 4, 5, 0, 0, 0}[what]);
        Due.row("1: the text", "0 0 -4 -1", x.erase(), x.fault(), x.album(), x.find());
        Due.row("1: no picture 0", "-2 -2 -2 -2 -2", x.picture(0, 0), x.piece(0, 0, 0), x.point(0, 0, 0), x.length(0, 0, 0), x.see(0, 0, 0));
        Due.row("1: nor for what asks of it", "-2 -2 -2 -2 -2 -2", x.strike(0, 0), x.before(0, 1), x.place(0, 0), x.often(0, 1),
                x.left(0, 0), x.would(0, 0, 0));
        Due.row("1: no thing, no piece", "-2 -1 -1", x.thing(0, 0), x.told(0, 0), x.told(0, 1));
        Due.row("1: nothing to undo, nothing kept", "-4 -4 -4", x.undo(), x.back(0), x.back(1));
        Due.row("1: one order, of no places", "1 -1 -1", x.orders(), x.order(0, 0), x.order(1, 0));
        Due.row("1: nothing that cannot be, nothing to ask", "-1 -1 0 -1 -1 -1", x.knot(0), x.knot(1), x.loose(-1), x.loose(0), x.ask(0), x.ask(1));
        for (int s = 0; s < 3; s++) Due.row("1: a missing strip", "-11 -11 -11 -11 -11", x.set(s, 0, 0), x.work(s, 0, 0, 0), x.bits(s, 0), x.sum(s), x.drop(s));
        Due.row("1: no picture to load, the latest", "-2 0", x.load(0, 0, 0, 0), x.latest());
        Due.row("1: no pieces are kept, and come back", "0 0", x.keep(1), x.back(1));
    }

    /** AlbumHours(): also beside one to which much was told, and that one stays as it was. */
    private static void besideAnother() {
        AlbumHours x = Due.of("sun 20 3 7;picture a;picture b;thing comes;see 0 0 0;see 1 0 1");
        x.keep(0);
        x.point(0, 3, 1);
        x.strip(0, 2);
        x.set(0, 1, 5);
        x.sum(0);
        Due.write(x, "b");
        newObject();
        AlbumHours y = Due.of("picture q;thing wears;point 0 1 1");
        y.keep(0);
        y.strip(0, 8);
        y.erase();
        Due.row("1: what was told to the first", "2 1 3 1 20 3 7 2 1 1", x.count(0), x.count(1), x.count(2), x.count(3), x.count(4), x.count(5), x.count(6),
                x.count(7), x.count(8), x.count(9));
        Due.row("1: what it finds", "1 1 5 1 2 0", x.find(), x.orders(), x.latest(), x.before(0, 1), x.back(0), x.piece(0, 2, 0));
    }

    /** THE DAY has SLOTS 0 .. 47. */
    private static void slots() {
        AlbumHours x = new AlbumHours();
        Due.row("11: below, the first, the last, above", "-3 -1 -1 -3", x.sun(-1, 0), x.sun(0, 0), x.sun(47, 0), x.sun(48, 0));
        Due.row("11: the lengths", "-3 -1 -1 -3", x.sun(-1, 1), x.sun(0, 1), x.sun(47, 1), x.sun(48, 1));
        Due.tell(x, "picture a");
        Due.row("7: all slots", "48 0 47", x.picture(0, 2), x.picture(0, 3), x.picture(0, 4));
    }

    /** NOON n (18 .. 30; 24 at first), GROWS a (1 .. 9; 4 at first), LOW b (1 .. 40; 5 at first). */
    private static void sunAtFirst() {
        AlbumHours x = new AlbumHours();
        Due.row("11: at noon and beside it", "11 6 12 5 13 6", x.sun(23, 0), x.sun(23, 1), x.sun(24, 0), x.sun(24, 1), x.sun(25, 0), x.sun(25, 1));
        Due.row("11: at both ends", "0 149 24 149", x.sun(12, 0), x.sun(12, 1), x.sun(36, 0), x.sun(36, 1));
        Due.tell(x, "sun 30 9 40");
        Due.tell(x, "album");
        Due.row("11: as at first again", "-1 0 149 12 5 24 -1", x.sun(11, 0), x.sun(12, 0), x.sun(12, 1), x.sun(24, 0), x.sun(24, 1), x.sun(36, 0), x.sun(37, 1));
    }

    /** It is UP at a SLOT that is no more than 12 from n. NONE: THE SUN is not UP. */
    private static void upTwelveFromNoon() {
        for (int noon = 18; noon <= 30; noon++) {
            AlbumHours x = Due.of("sun " + noon + " 1 1");
            for (int slot = 0; slot < 48; slot++) {
                boolean up = slot >= noon - 12 && slot <= noon + 12;
                Due.is("11: sun(" + slot + ", 0), noon " + noon, x.sun(slot, 0), up ? slot - noon + 12 : Due.NONE);
                Due.is("11: sun(" + slot + ", 1), noon " + noon, x.sun(slot, 1), up ? 1 + (slot - noon) * (slot - noon) / 4 : Due.NONE);
            }
        }
    }

    /** Its POINT there is that SLOT less n, and 12: so 0 .. 24, as a value can be. */
    private static void pointFromNoughtToTwentyFour() {
        AlbumHours x = Due.of("sun 18 9 40;picture a");
        Due.row("11: the ends of the earliest day", "-1 0 1 23 24 -1", x.sun(5, 0), x.sun(6, 0), x.sun(7, 0), x.sun(29, 0), x.sun(30, 0), x.sun(31, 0));
        Due.row("12: the least value", "1 1 6 6", x.point(0, 0, 0), x.picture(0, 2), x.picture(0, 3), x.picture(0, 4));
        Due.row("12: the greatest value", "1 1 30 30", x.point(0, 24, 0), x.picture(0, 2), x.picture(0, 3), x.picture(0, 4));
        AlbumHours y = Due.of("sun 30 9 40");
        Due.row("11: the ends of the latest day", "-1 0 24 -1", y.sun(17, 0), y.sun(18, 0), y.sun(42, 0), y.sun(43, 0));
    }

    /** Its LENGTH b and a fourth (cut) of a times the square of how far it is from n. */
    private static void lengthIsCut() {
        int[] lows = {1, 40};
        for (int grows = 1; grows <= 9; grows++) {
            for (int low : lows) {
                AlbumHours x = Due.of("sun 24 " + grows + " " + low);
                for (int far = 0; far <= 12; far++) {
                    int due = low + (int) Math.floor(grows * far * far / 4.0);
                    Due.row("11: grows " + grows + ", low " + low + ", far " + far, due + " " + due, x.sun(24 - far, 1), x.sun(24 + far, 1));
                }
            }
        }
        AlbumHours x = Due.of("sun 24 9 40");
        Due.row("11: the longest", "364 364", x.sun(12, 1), x.sun(36, 1));
        AlbumHours y = Due.of("sun 24 1 1");
        Due.row("11: a fourth of 1, of 4, of 9", "1 2 3", y.sun(25, 1), y.sun(26, 1), y.sun(27, 1));
    }

    /** Letters of its WORD (what 0): 1 to 5; of the first and of the seventh picture. */
    private static void word() {
        AlbumHours x = Due.of("picture a;picture bb;picture ccc;picture dddd;picture eeeee;picture f;picture zzzzz");
        Due.row("7: letters", "1 2 3 4 5 1 5", x.picture(0, 0), x.picture(1, 0), x.picture(2, 0), x.picture(3, 0), x.picture(4, 0), x.picture(5, 0),
                x.picture(6, 0));
    }

    /** PIECES to it (1): none, one, all eight. */
    private static void piecesOfAPicture() {
        AlbumHours x = Due.of(SEVEN, SIX);
        Due.is("7: none", x.picture(6, 1), 0);
        x.see(6, 5, 1);
        Due.row("7: one, none to the others", "1 0", x.picture(6, 1), x.picture(5, 1));
        for (int t = 0; t < 6; t++) x.see(6, t, 0);
        x.point(6, 1, 1);
        Due.is("7: seven", x.picture(6, 1), 7);
        x.length(6, 1, 1);
        Due.row("7: eight", "8 0", x.picture(6, 1), x.picture(0, 1));
        x.strike(6, 7);
        Due.is("7: seven again", x.picture(6, 1), 7);
    }

    private static void window(String what, AlbumHours x, int many, int first, int last) {
        Due.row("7: " + what, many + " " + first + " " + last, x.picture(0, 2), x.picture(0, 3), x.picture(0, 4));
    }

    /** All SLOTS, if it has neither: where THE SUN is not UP, too. */
    private static void windowOfNeither() {
        AlbumHours x = Due.of("picture a;thing wears;see 0 0 9");
        window("neither", x, 48, 0, 47);
        x.length(0, 999, 99);
        window("one of them", x, 0, -1, -1);
        x.strike(0, 1);
        window("neither again", x, 48, 0, 47);
    }

    /** THE SUN is UP and its POINT is no more than SLACK from the value: at most 19 slots, 10 at the day's ends. */
    private static void windowByPoint() {
        AlbumHours x = Due.of("picture a");
        int[][] due = {{12, 0, 1, 24, 24}, {12, 1, 3, 23, 25}, {12, 9, 19, 15, 33}, {0, 0, 1, 12, 12}, {0, 9, 10, 12, 21}, {24, 0, 1, 36, 36},
            {24, 9, 10, 27, 36}, {9, 9, 19, 12, 30}, {8, 9, 18, 12, 29}, {15, 9, 19, 18, 36}, {16, 9, 18, 19, 36}, {1, 1, 3, 12, 14}};
        for (int[] d : due) {
            x.point(0, d[0], d[1]);
            window("point " + d[0] + ", slack " + d[1], x, d[2], d[3], d[4]);
        }
    }

    /** Its LENGTH is no more than SLACK from the value: as far as the slack, not one further. */
    private static void windowByLength() {
        AlbumHours x = Due.of("picture a");
        int[][] due = {{5, 0, 1, 24, 24}, {4, 0, 0, -1, -1}, {4, 1, 1, 24, 24}, {6, 0, 2, 23, 25}, {6, 1, 3, 23, 25}, {7, 1, 2, 23, 25},
            {7, 2, 5, 22, 26}, {3, 1, 0, -1, -1}, {0, 4, 0, -1, -1}, {0, 5, 1, 24, 24}, {0, 99, 19, 15, 33}, {50, 99, 25, 12, 36},
            {50, 98, 23, 13, 35}, {149, 0, 2, 12, 36}, {150, 0, 0, -1, -1}, {150, 1, 2, 12, 36}, {248, 99, 2, 12, 36}, {249, 99, 0, -1, -1},
            {999, 99, 0, -1, -1}};
        for (int[] d : due) {
            x.length(0, d[0], d[1]);
            window("length " + d[0] + ", slack " + d[1], x, d[2], d[3], d[4]);
        }
    }

    /** By its PIECES of MATTER 0 and 1: both must fit. */
    private static void windowByBoth() {
        AlbumHours x = Due.of("picture a");
        x.length(0, 14, 0);
        window("length alone", x, 2, 21, 27);
        x.point(0, 9, 0);
        window("the earlier one", x, 1, 21, 21);
        x.point(0, 15, 0);
        window("the later one", x, 1, 27, 27);
        x.point(0, 12, 2);
        window("between them", x, 0, -1, -1);
        x.point(0, 12, 3);
        window("as far as both", x, 2, 21, 27);
        x.strike(0, 1);
        window("point alone", x, 7, 21, 27);
    }

    /** The first of these (3; NONE), the last (4; NONE). */
    private static void windowOfNone() {
        AlbumHours x = Due.of("picture a;point 0 0 0;long 0 5 9");
        window("none", x, 0, -1, -1);
        x.length(0, 149, 0);
        window("one, where both meet", x, 1, 12, 12);
        x.point(0, 24, 0);
        window("one at the other end", x, 1, 36, 36);
    }

    /** NOON, GROWS, LOW told otherwise make another WINDOW. */
    private static void windowBySunAlone() {
        AlbumHours x = Due.of("picture a;point 0 0 1;long 0 140 20");
        window("at first", x, 2, 12, 13);
        Due.tell(x, "sun 18 4 5");
        window("an earlier noon", x, 2, 6, 7);
        Due.tell(x, "sun 30 4 20");
        window("a later noon, longer shadows", x, 1, 19, 19);
        Due.tell(x, "sun 30 9 1");
        window("shadows that grow too far", x, 0, -1, -1);
        Due.tell(x, "sun 30 1 1");
        window("too little", x, 0, -1, -1);
    }

    /** How many are BEFORE it (5; itself, too, if it is): none, six of seven, all seven. */
    private static void beforeIt() {
        AlbumHours x = Due.of(SEVEN + ";thing wears;thing comes");
        for (int p = 0; p < 7; p++) Due.is("7: nothing told", x.picture(p, 5), 0);
        for (int p = 0; p < 7; p++) x.see(p, 0, p);
        for (int p = 0; p < 7; p++) Due.is("7: as many as wear less", x.picture(p, 5), p);
        x.see(6, 1, 0);
        x.see(0, 1, 1);
        for (int p = 0; p < 7; p++) Due.is("7: round about, itself, too", x.picture(p, 5), 7);
        x.see(5, 1, 0);
        x.strike(6, 3);
        Due.row("7: the last is before nobody now", "6 6 6 6 6 6 6", x.picture(0, 5), x.picture(1, 5), x.picture(2, 5), x.picture(3, 5),
                x.picture(4, 5), x.picture(5, 5), x.picture(6, 5));
        Due.row("7: not itself", "1 0", x.before(0, 6), x.before(6, 0));
    }

    /** Of a THING: its KIND; PICTURES of which there is a PIECE of it, those by a value above 0: none yet. */
    private static void thingNotTold() {
        AlbumHours x = Due.of(SEVEN, SIX);
        int[] kinds = {0, 1, 2, 3, 0, 1};
        for (int t = 0; t < 6; t++) Due.row("8: thing " + t, kinds[t] + " 0 0", x.thing(t, 0), x.thing(t, 1), x.thing(t, 2));
    }

    /** (1, bits), (2, bits): of the first, of the seventh, of all pictures. */
    private static void thingByAll() {
        AlbumHours x = Due.of(SEVEN, SIX);
        x.see(6, 5, 1);
        Due.row("8: the seventh picture", "64 64", x.thing(5, 1), x.thing(5, 2));
        x.see(0, 5, 0);
        Due.row("8: the first, too", "65 64", x.thing(5, 1), x.thing(5, 2));
        for (int p = 0; p < 7; p++) x.see(p, 5, 1);
        Due.row("8: all", "127 127", x.thing(5, 1), x.thing(5, 2));
        for (int p = 0; p < 7; p++) x.see(p, 5, 0);
        Due.row("8: all, there in none", "127 0", x.thing(5, 1), x.thing(5, 2));
        for (int p = 0; p < 7; p++) x.strike(p, 7);
        Due.row("8: none again", "0 0", x.thing(5, 1), x.thing(5, 2));
    }

    /** By a value above 0: if it WEARS 1 is, 0 is not. */
    private static void valueAboveNought() {
        AlbumHours x = Due.of("picture a;picture b;picture c;thing wears;see 0 0 0;see 1 0 1;see 2 0 9");
        Due.row("8: values 0, 1, 9", "7 6", x.thing(0, 1), x.thing(0, 2));
    }

    /** NONE: there is none; of each matter. */
    private static void pieceNone() {
        AlbumHours x = Due.of(SEVEN, SIX);
        for (int matter = 0; matter < 8; matter++) {
            Due.row("9: none of matter " + matter, "-1 -1 -1", x.piece(6, matter, 0), x.piece(6, matter, 1), x.piece(6, matter, 2));
        }
    }

    /** Value (what 0), SLACK (1), number (2): the least and the greatest ones. */
    private static void pieceAtItsBounds() {
        AlbumHours x = Due.of(SEVEN, SIX);
        x.point(0, 0, 0);
        x.length(0, 0, 0);
        x.see(0, 0, 0);
        x.point(6, 24, 9);
        x.length(6, 999, 99);
        x.see(6, 3, 9);
        x.see(6, 5, 1);
        int[][] due = {{0, 0, 0, 0, 0}, {0, 1, 0, 0, 1}, {0, 2, 0, 0, 2}, {6, 0, 24, 9, 3}, {6, 1, 999, 99, 4}, {6, 5, 9, 0, 5}, {6, 7, 1, 0, 6}};
        for (int[] d : due) {
            Due.row("9: piece " + d[0] + ", " + d[1], d[2] + " " + d[3] + " " + d[4], x.piece(d[0], d[1], 0), x.piece(d[0], d[1], 1), x.piece(d[0], d[1], 2));
        }
    }

    /** Of the k-th PIECE (0 on); NONE beyond: none told, one told. */
    private static void toldNone() {
        AlbumHours x = Due.of("picture a");
        Due.row("10: none told", "-1 -1 -1", x.told(0, 0), x.told(0, 1), x.told(Integer.MAX_VALUE, 0));
        x.point(0, 0, 0);
        Due.row("10: one told", "0 0 -1 -1", x.told(0, 0), x.told(0, 1), x.told(1, 0), x.told(1, 1));
        x.strike(0, 0);
        Due.row("10: none again", "-1 -1", x.told(0, 0), x.told(0, 1));
    }

    /** Of the k-th PIECE: the last of all 56 that there can be, and beyond. */
    private static void toldToTheLast() {
        AlbumHours x = Due.of(SEVEN, SIX);
        for (int p = 6; p >= 0; p--) {
            for (int t = 0; t < 6; t++) x.see(p, t, 1);
            x.length(p, 9, 9);
            x.point(p, 9, 9);
        }
        Due.is("37: all pieces", x.count(2), 56);
        Due.row("10: the first, the last but one, the last, beyond", "6 2 0 1 0 0 -1 -1", x.told(0, 0), x.told(0, 1), x.told(54, 0), x.told(54, 1),
                x.told(55, 0), x.told(55, 1), x.told(56, 0), x.told(56, 1));
        Due.is("9: number of the last", x.piece(0, 0, 2), 55);
        Due.is("12: once more told, as many", x.point(6, 1, 1), 56);
        Due.is("9: where it was", x.piece(6, 0, 2), 7);
        Due.is("7: eight to each", x.picture(3, 1), 8);
    }

    /** UNKNOWN (no such PICTURE); OUTSIDE (what 0 .. 5). */
    private static void refusedPicture() {
        AlbumHours x = Due.of(SEVEN);
        int[] none = {-1, 7, 8, Integer.MIN_VALUE, Integer.MAX_VALUE};
        for (int p : none) Due.row("7: no picture " + p, "-2 -2 -2 -2", x.picture(p, 0), x.picture(p, 5), x.picture(p, -1), x.picture(p, 6));
        int[] outside = {-1, 6, Integer.MIN_VALUE, Integer.MAX_VALUE};
        for (int what : outside) Due.row("7: what " + what, "-3 -3", x.picture(0, what), x.picture(6, what));
        Due.row("7: the first and the last", "1 0 1 0", x.picture(0, 0), x.picture(0, 5), x.picture(6, 0), x.picture(6, 5));
        Due.row("7: one picture", "1 -2", Due.of("picture a").picture(0, 0), Due.of("picture a").picture(1, 0));
    }

    /** UNKNOWN (no such THING); OUTSIDE (what 0 .. 2). */
    private static void refusedThing() {
        AlbumHours x = Due.of(SIX);
        int[] none = {-1, 6, 7, Integer.MIN_VALUE, Integer.MAX_VALUE};
        for (int t : none) Due.row("8: no thing " + t, "-2 -2 -2 -2", x.thing(t, 0), x.thing(t, 2), x.thing(t, -1), x.thing(t, 3));
        int[] outside = {-1, 3, Integer.MIN_VALUE, Integer.MAX_VALUE};
        for (int what : outside) Due.row("8: what " + what, "-3 -3", x.thing(0, what), x.thing(5, what));
        Due.row("8: the first and the last", "0 0 1 0", x.thing(0, 0), x.thing(0, 2), x.thing(5, 0), x.thing(5, 2));
        Due.row("8: one thing", "1 -2", Due.of("thing goes").thing(0, 0), Due.of("thing goes").thing(1, 0));
    }

    /** UNKNOWN; OUTSIDE (a MATTER of no THING, too; what 0 .. 2). */
    private static void refusedPiece() {
        AlbumHours x = Due.of("picture a;picture b;thing comes;point 0 1 1");
        int[] none = {-1, 2, Integer.MIN_VALUE, Integer.MAX_VALUE};
        for (int p : none) Due.row("9: no picture " + p, "-2 -2 -2", x.piece(p, 0, 0), x.piece(p, -1, 0), x.piece(p, 0, 3));
        int[] outside = {-1, 3, 8, Integer.MIN_VALUE, Integer.MAX_VALUE};
        for (int matter : outside) Due.row("9: matter " + matter, "-3 -3 -3", x.piece(0, matter, 0), x.piece(1, matter, 2), x.piece(1, matter, 3));
        int[] whats = {-1, 3, Integer.MIN_VALUE, Integer.MAX_VALUE};
        for (int what : whats) Due.row("9: what " + what, "-3 -3", x.piece(0, 0, what), x.piece(1, 2, what));
        Due.row("9: matter 2 with a thing, without", "-1 -3", x.piece(0, 2, 0), Due.of("picture a").piece(0, 2, 0));
        AlbumHours y = Due.of(SEVEN, SIX);
        Due.row("9: matters 7, 8 with six things", "-1 -3 -1 -2", y.piece(0, 7, 0), y.piece(0, 8, 0), y.piece(6, 0, 0), y.piece(7, 0, 0));
    }

    /** OUTSIDE: what, k below 0. */
    private static void refusedTold() {
        AlbumHours x = Due.of("picture a;point 0 1 1");
        Due.row("10: k", "-3 -3 0 -1 -1", x.told(Integer.MIN_VALUE, 0), x.told(-1, 0), x.told(0, 0), x.told(1, 0), x.told(Integer.MAX_VALUE, 1));
        Due.row("10: what", "-3 -3 0 0 -3 -3", x.told(0, Integer.MIN_VALUE), x.told(0, -1), x.told(0, 0), x.told(0, 1), x.told(0, 2), x.told(0, Integer.MAX_VALUE));
        Due.row("10: what, beyond the last piece", "-3 -3", x.told(1, -1), x.told(1, 2));
    }

    /** OUTSIDE: the slot, what. */
    private static void refusedSun() {
        AlbumHours x = new AlbumHours();
        int[] outside = {-1, 48, Integer.MIN_VALUE, Integer.MAX_VALUE};
        for (int slot : outside) Due.row("11: slot " + slot, "-3 -3 -3", x.sun(slot, 0), x.sun(slot, 1), x.sun(slot, 2));
        int[] whats = {-1, 2, Integer.MIN_VALUE, Integer.MAX_VALUE};
        for (int what : whats) Due.row("11: what " + what, "-3 -3", x.sun(24, what), x.sun(0, what));
    }
}
