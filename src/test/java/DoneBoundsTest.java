/**
 * Promises 12 to 18, each sentence at its bounds: the bound, one below, one above; nothing told yet, as much as can be
 * told; what is refused changes nothing. The sentence stands above its test.
 */
public final class DoneBoundsTest {
    private static final String SEVEN = "picture a;picture b;picture c;picture d;picture e;picture f;picture g";
    private static final String SIX = "thing comes;thing goes;thing passes;thing wears;thing comes;thing goes";
    private static final String THREE = "picture a;picture b;picture c;thing comes;thing goes;thing passes;thing wears";
    private static final int LEAST = Integer.MIN_VALUE, GREATEST = Integer.MAX_VALUE;

    public static void main(String[] args) {
        nothingTold();
        pointValue();
        pointSlack();
        pointPicture();
        lengthValue();
        lengthSlack();
        lengthPicture();
        seeValue();
        seePictureAndThing();
        howManyPieces();
        oneToAPictureAndAMatter();
        staysWhereItIs();
        strikeNone();
        strikeMatter();
        strikePicture();
        aNumberLess();
        strikeTheOnlyOne();
        undoNone();
        undoOne();
        undoEightOfNine();
        undoOverTheRim();
        undoWhatBecameNoOther();
        undoNumbers();
        undoNotTheRefused();
        undoOfAllPieces();
        keepNone();
        keepAll();
        keepWhich();
        keepIsNoDeed();
        keptIsKept();
        backNothingKept();
        backWhich();
        backAndUndo();
        backNumbers();
        backOfAllPieces();
        backUntilTheNextText();
        Due.end();
    }

    /** Nothing told yet: no such PICTURE, none to undo, nothing kept, none to keep. */
    private static void nothingTold() {
        AlbumHours x = new AlbumHours();
        Due.row("12 to 15: no picture", "-2 -2 -2 -2", x.point(0, 0, 0), x.length(0, 0, 0), x.see(0, 0, 0), x.strike(0, 0));
        Due.row("12 to 15: whatever else is asked", "-2 -2 -2 -2", x.point(0, 25, 10), x.length(0, -1, -1), x.see(0, 0, 2), x.strike(0, -1));
        Due.row("16 to 18", "-4 -4 -4 0 0", x.undo(), x.back(0), x.back(1), x.keep(0), x.back(0));
        Due.row("37: nothing is told, nothing can be undone", "0 0", x.count(2), x.count(8));
    }

    private static String told(AlbumHours x, int picture, int matter) {
        return x.count(2) + " " + x.piece(picture, matter, 0) + " " + x.piece(picture, matter, 1) + " " + x.count(8);
    }

    private static void stands(String what, AlbumHours x, int picture, int matter, String due) {
        String found = told(x, picture, matter);
        Due.is(what + ": '" + found + "', due is '" + due + "': alike", found.equals(due) ? 1 : 0, 1);
    }

    /** MATTER 0 is a POINT (value 0 .. 24). */
    private static void pointValue() {
        AlbumHours x = Due.of("picture a");
        int[] wrong = {-1, 25, LEAST, GREATEST};
        for (int v : wrong) Due.is("12: value " + v, x.point(0, v, 0), Due.OUTSIDE);
        stands("12: nothing was told", x, 0, 0, "0 -1 -1 0");
        Due.is("12: value 0", x.point(0, 0, 3), 1);
        stands("12: value 0", x, 0, 0, "1 0 3 1");
        Due.is("12: value 24", x.point(0, 24, 3), 1);
        for (int v : wrong) Due.is("12: value " + v, x.point(0, v, 0), Due.OUTSIDE);
        stands("12: value 24", x, 0, 0, "1 24 3 2");
    }

    /** SLACK 0 .. 9. */
    private static void pointSlack() {
        AlbumHours x = Due.of("picture a");
        int[] wrong = {-1, 10, LEAST, GREATEST};
        for (int s : wrong) Due.is("12: slack " + s, x.point(0, 7, s), Due.OUTSIDE);
        stands("12: nothing was told", x, 0, 0, "0 -1 -1 0");
        Due.is("12: slack 0", x.point(0, 7, 0), 1);
        stands("12: slack 0", x, 0, 0, "1 7 0 1");
        Due.is("12: slack 9", x.point(0, 7, 9), 1);
        for (int s : wrong) Due.is("12: slack " + s, x.point(0, 5, s), Due.OUTSIDE);
        stands("12: slack 9", x, 0, 0, "1 7 9 2");
    }

    /** To a PICTURE: UNKNOWN, ahead of OUTSIDE. */
    private static void pointPicture() {
        AlbumHours x = Due.of(SEVEN);
        int[] wrong = {-1, 7, LEAST, GREATEST};
        for (int p : wrong) Due.row("12: picture " + p, "-2 -2 -2", x.point(p, 0, 0), x.point(p, 25, 0), x.point(p, 0, -1));
        Due.row("12: the first, the last", "1 2 2 0", x.point(0, 0, 0), x.point(6, 0, 0), x.count(8), x.piece(0, 0, 2));
        Due.row("12: of one picture", "-2 1", Due.of("picture a").point(1, 0, 0), Due.of("picture a").point(0, 0, 0));
    }

    /** 1 a LENGTH (value 0 .. 999). */
    private static void lengthValue() {
        AlbumHours x = Due.of("picture a");
        int[] wrong = {-1, 1000, LEAST, GREATEST};
        for (int v : wrong) Due.is("13: value " + v, x.length(0, v, 0), Due.OUTSIDE);
        stands("13: nothing was told", x, 0, 1, "0 -1 -1 0");
        Due.is("13: value 0", x.length(0, 0, 3), 1);
        stands("13: value 0", x, 0, 1, "1 0 3 1");
        Due.is("13: value 999", x.length(0, 999, 3), 1);
        for (int v : wrong) Due.is("13: value " + v, x.length(0, v, 0), Due.OUTSIDE);
        stands("13: value 999", x, 0, 1, "1 999 3 2");
    }

    /** SLACK 0 .. 99. */
    private static void lengthSlack() {
        AlbumHours x = Due.of("picture a");
        int[] wrong = {-1, 100, LEAST, GREATEST};
        for (int s : wrong) Due.is("13: slack " + s, x.length(0, 7, s), Due.OUTSIDE);
        stands("13: nothing was told", x, 0, 1, "0 -1 -1 0");
        Due.is("13: slack 0", x.length(0, 7, 0), 1);
        stands("13: slack 0", x, 0, 1, "1 7 0 1");
        Due.is("13: slack 99", x.length(0, 7, 99), 1);
        for (int s : wrong) Due.is("13: slack " + s, x.length(0, 5, s), Due.OUTSIDE);
        stands("13: slack 99", x, 0, 1, "1 7 99 2");
    }

    private static void lengthPicture() {
        AlbumHours x = Due.of(SEVEN);
        int[] wrong = {-1, 7, LEAST, GREATEST};
        for (int p : wrong) Due.row("13: picture " + p, "-2 -2 -2", x.length(p, 0, 0), x.length(p, 1000, 0), x.length(p, 0, -1));
        Due.row("13: the first, the last", "1 2 2 0", x.length(0, 0, 0), x.length(6, 0, 0), x.count(8), x.piece(0, 1, 2));
        Due.row("13: of one picture", "-2 1", Due.of("picture a").length(1, 0, 0), Due.of("picture a").length(0, 0, 0));
    }

    /** Value 0 it is not there, 1 it is there; if it WEARS 0 .. 9; SLACK 0. */
    private static void seeValue() {
        for (int t = 0; t < 4; t++) {
            int most = t == 3 ? 9 : 1;
            AlbumHours x = Due.of(THREE);
            int[] wrong = {-1, most + 1, 10, LEAST, GREATEST};
            for (int v : wrong) Due.is("14: value " + v + " of thing " + t, x.see(1, t, v), Due.OUTSIDE);
            stands("14: nothing was told", x, 1, 2 + t, "0 -1 -1 0");
            Due.is("14: value 0 of thing " + t, x.see(1, t, 0), 1);
            stands("14: value 0", x, 1, 2 + t, "1 0 0 1");
            Due.is("14: value " + most + " of thing " + t, x.see(1, t, most), 1);
            for (int v : wrong) Due.is("14: value " + v + " of thing " + t, x.see(1, t, v), Due.OUTSIDE);
            stands("14: value " + most, x, 1, 2 + t, "1 " + most + " 0 2");
        }
    }

    /** Of a THING to a PICTURE: UNKNOWN for either, ahead of OUTSIDE. */
    private static void seePictureAndThing() {
        AlbumHours x = Due.of(SEVEN, SIX);
        int[] pictures = {-1, 7, LEAST, GREATEST};
        int[] things = {-1, 6, LEAST, GREATEST - 1, GREATEST};
        for (int p : pictures) Due.row("14: picture " + p, "-2 -2 -2", x.see(p, 0, 0), x.see(p, 0, 2), x.see(p, 6, 0));
        for (int t : things) Due.row("14: thing " + t, "-2 -2 -2", x.see(0, t, 0), x.see(6, t, -1), x.see(-1, t, 0));
        Due.row("14: none was told", "0 0", x.count(2), x.count(8));
        Due.row("14: the first ones, the last ones", "1 2 1", x.see(0, 0, 0), x.see(6, 5, 1), x.piece(6, 7, 2));
        Due.row("14: no things", "-2 -2", Due.of("picture a").see(0, 0, 0), Due.of("thing goes").see(0, 0, 0));
    }

    private static AlbumHours ofAllPieces() {
        AlbumHours x = Due.of(SEVEN, SIX);
        int many = 0;
        for (int p = 0; p < 7; p++) {
            Due.is("12: how many there are", x.point(p, p, 9), ++many);
            Due.is("13: how many there are", x.length(p, p, 99), ++many);
            for (int t = 0; t < 6; t++) Due.is("14: how many there are", x.see(p, t, 1), ++many);
        }
        return x;
    }

    /** How many PIECES there are: from the first to all that there can be. */
    private static void howManyPieces() {
        AlbumHours x = ofAllPieces();
        Due.row("12 to 14: told otherwise, as many", "56 56 56 56", x.count(2), x.point(6, 24, 0), x.length(0, 999, 0), x.see(3, 3, 9));
        Due.row("15: one fewer", "55 55", x.strike(0, 0), x.count(2));
        Due.row("12: all again, the last now", "56 55", x.point(0, 0, 0), x.piece(0, 0, 2));
    }

    /** PIECES: at most one to a PICTURE and a MATTER. */
    private static void oneToAPictureAndAMatter() {
        AlbumHours x = Due.of(THREE);
        Due.row("12: one", "1 1 1", x.point(0, 1, 1), x.point(0, 2, 2), x.point(0, 3, 3));
        Due.row("13: one more, of another matter", "2 2", x.length(0, 1, 1), x.length(0, 2, 2));
        Due.row("14: of each thing", "3 4 4 4", x.see(0, 0, 1), x.see(0, 1, 1), x.see(0, 0, 0), x.see(0, 1, 0));
        Due.row("12: of another picture", "5 2 1", x.point(1, 1, 1), x.piece(0, 1, 0), x.piece(1, 0, 0));
    }

    /** One that is told otherwise stays where it is: the first, one between, the last. */
    private static void staysWhereItIs() {
        AlbumHours x = Due.of(THREE);
        x.point(2, 1, 1);
        x.see(1, 3, 5);
        x.length(0, 1, 1);
        x.point(2, 2, 2);
        x.see(1, 3, 0);
        x.length(0, 3, 3);
        Due.row("12 to 14: numbers", "0 1 2", x.piece(2, 0, 2), x.piece(1, 5, 2), x.piece(0, 1, 2));
        Due.row("12 to 14: values", "2 0 3", x.piece(2, 0, 0), x.piece(1, 5, 0), x.piece(0, 1, 0));
        Due.row("10: in their order", "2 0 1 5 0 1", x.told(0, 0), x.told(0, 1), x.told(1, 0), x.told(1, 1), x.told(2, 0), x.told(2, 1));
    }

    /** NOT: there is none. */
    private static void strikeNone() {
        AlbumHours x = Due.of(THREE);
        for (int matter = 0; matter < 6; matter++) Due.is("15: none of matter " + matter, x.strike(1, matter), Due.NOT);
        Due.row("15: nothing told, nothing to undo", "0 0 -4", x.count(2), x.count(8), x.undo());
        x.see(1, 0, 0);
        Due.row("15: another picture's, another matter's", "-4 -4 1", x.strike(0, 2), x.strike(1, 3), x.count(2));
        Due.row("15: struck out, then there is none", "0 -4 2", x.strike(1, 2), x.strike(1, 2), x.count(8));
    }

    /** OUTSIDE: the MATTER: below 0, of no THING; ahead of NOT. */
    private static void strikeMatter() {
        AlbumHours x = Due.of(THREE);
        int[] wrong = {-1, 6, 7, 8, LEAST, GREATEST};
        for (int matter : wrong) Due.is("15: matter " + matter, x.strike(0, matter), Due.OUTSIDE);
        x.see(0, 3, 1);
        for (int matter : wrong) Due.is("15: matter " + matter, x.strike(0, matter), Due.OUTSIDE);
        Due.row("15: the piece stands", "1 1", x.count(2), x.count(8));
        Due.row("15: the last matter", "0", x.strike(0, 5));
        Due.row("15: no things", "-4 -4 -3", Due.of("picture a").strike(0, 0), Due.of("picture a").strike(0, 1), Due.of("picture a").strike(0, 2));
        Due.row("15: six things", "-4 -3", Due.of(SEVEN, SIX).strike(6, 7), Due.of(SEVEN, SIX).strike(6, 8));
    }

    /** UNKNOWN, ahead of OUTSIDE, NOT. */
    private static void strikePicture() {
        AlbumHours x = Due.of(SEVEN);
        x.point(0, 1, 1);
        x.point(6, 1, 1);
        int[] wrong = {-1, 7, LEAST, GREATEST};
        for (int p : wrong) Due.row("15: picture " + p, "-2 -2 -2", x.strike(p, 0), x.strike(p, -1), x.strike(p, 2));
        Due.row("15: the last, the first", "1 0", x.strike(6, 0), x.strike(0, 0));
    }

    /** One that is struck out leaves the later ones a number less: the first, one between, the last of all. */
    private static void aNumberLess() {
        AlbumHours x = ofAllPieces();
        Due.row("15: the first", "55 0 54", x.strike(0, 0), x.piece(0, 1, 2), x.piece(6, 7, 2));
        Due.row("15: the last", "54 -1 53", x.strike(6, 7), x.piece(6, 7, 2), x.piece(6, 6, 2));
        Due.row("15: one between", "53 22 23 52", x.strike(3, 0), x.piece(2, 7, 2), x.piece(3, 1, 2), x.piece(6, 6, 2));
        for (int k = 0; k < 53; k++) Due.is("9, 10: number " + k, x.piece(x.told(k, 0), x.told(k, 1), 2), k);
        Due.row("10: beyond", "-1 -1", x.told(53, 0), x.told(53, 1));
    }

    private static void strikeTheOnlyOne() {
        AlbumHours x = Due.of(THREE);
        x.see(2, 3, 9);
        Due.row("15: the only one", "0 -1 -1 -1 -1", x.strike(2, 5), x.told(0, 0), x.piece(2, 5, 0), x.piece(2, 5, 1), x.piece(2, 5, 2));
        Due.row("15: the next is the first", "1 0", x.point(1, 1, 1), x.piece(1, 0, 2));
    }

    /** NOT: none can be undone. */
    private static void undoNone() {
        AlbumHours x = Due.of(THREE + ";see 0 0 1");
        Due.row("16: a text is not undone", "-4 -4 1 0", x.undo(), x.undo(), x.count(2), x.count(8));
    }

    /** The latest one is undone, of each call that can be: how many can be undone yet. */
    private static void undoOne() {
        AlbumHours x = Due.of(THREE + ";see 0 0 1");
        Due.row("16: point", "2 0 1 -4", x.point(0, 1, 1), x.undo(), x.count(2), x.undo());
        Due.row("16: length", "2 0 1 -4", x.length(0, 1, 1), x.undo(), x.count(2), x.undo());
        Due.row("16: see", "2 0 1 -4", x.see(1, 0, 0), x.undo(), x.count(2), x.undo());
        Due.row("16: strike", "0 0 1 -4", x.strike(0, 2), x.undo(), x.count(2), x.undo());
        Due.is("16: as it was", x.piece(0, 2, 0), 1);
    }

    /** The last 8 can be: of seven, of eight, of nine. */
    private static void undoEightOfNine() {
        for (int deeds = 7; deeds <= 9; deeds++) {
            AlbumHours x = Due.of(THREE);
            for (int v = 1; v <= deeds; v++) x.point(0, v, 0);
            Due.is("37: can be undone of " + deeds, x.count(8), Math.min(8, deeds));
            for (int left = Math.min(8, deeds) - 1; left >= 0; left--) Due.is("16: of " + deeds, x.undo(), left);
            Due.row("16: the first of nine stays", deeds == 9 ? "-4 1 1" : "-4 0 -1", x.undo(), x.count(2), x.piece(0, 0, 0));
        }
    }

    /** The last 8, also when many more were told, undone, told anew. */
    private static void undoOverTheRim() {
        AlbumHours x = Due.of(THREE);
        for (int v = 0; v < 20; v++) x.length(0, v, 0);
        Due.row("16: three undone", "7 6 5 16", x.undo(), x.undo(), x.undo(), x.piece(0, 1, 0));
        x.length(0, 90, 0);
        x.length(0, 91, 0);
        Due.row("16: two more can be", "7 91", x.count(8), x.piece(0, 1, 0));
        x.length(0, 92, 0);
        x.length(0, 93, 0);
        Due.is("16: eight at most", x.count(8), 8);
        int[] due = {92, 91, 90, 16, 15, 14, 13, 12};
        for (int i = 0; i < 8; i++) Due.row("16: back to " + due[i], (7 - i) + " " + due[i], x.undo(), x.piece(0, 1, 0));
        Due.row("16: no further", "-4 12", x.undo(), x.piece(0, 1, 0));
    }

    /** Also one by which nothing became other. */
    private static void undoWhatBecameNoOther() {
        AlbumHours x = Due.of(THREE);
        for (int i = 0; i < 3; i++) x.see(0, 0, 1);
        for (int i = 0; i < 3; i++) x.point(0, 5, 2);
        for (int i = 0; i < 3; i++) x.length(0, 5, 2);
        Due.row("16: eight of nine", "8 3", x.count(8), x.count(2));
        Due.row("16: the same twice, then the first", "7 3 6 3 5 2", x.undo(), x.count(2), x.undo(), x.count(2), x.undo(), x.count(2));
        Due.row("16: the points", "4 2 3 2 2 1", x.undo(), x.count(2), x.undo(), x.count(2), x.undo(), x.count(2));
        Due.row("16: the sights but the first", "1 1 0 1 -4", x.undo(), x.count(2), x.undo(), x.count(2), x.undo());
    }

    /** All numbers as ahead of it: of the first struck out, of one told otherwise, of one told anew. */
    private static void undoNumbers() {
        AlbumHours x = Due.of(THREE + ";point 0 1 1;point 1 2 2;point 2 3 3");
        x.strike(0, 0);
        x.point(0, 9, 9);
        Due.row("16: it is the last now", "2 0 1", x.piece(0, 0, 2), x.piece(1, 0, 2), x.piece(2, 0, 2));
        x.point(1, 8, 8);
        Due.row("16: told otherwise, undone", "2 2 2 0", x.undo(), x.piece(1, 0, 0), x.piece(1, 0, 1), x.piece(1, 0, 2));
        Due.row("16: told anew, undone", "1 -1 0 1", x.undo(), x.piece(0, 0, 2), x.piece(1, 0, 2), x.piece(2, 0, 2));
        Due.row("16: struck out, undone", "0 0 1 2 1 1", x.undo(), x.piece(0, 0, 2), x.piece(1, 0, 2), x.piece(2, 0, 2), x.piece(0, 0, 0), x.piece(0, 0, 1));
    }

    /** What is refused, what only looks, keep(), undo() itself are not undone. */
    private static void undoNotTheRefused() {
        AlbumHours x = Due.of(THREE);
        x.see(0, 0, 1);
        x.see(0, 0, 2);
        x.point(3, 0, 0);
        x.length(0, 0, 100);
        x.strike(0, 0);
        x.strike(0, 9);
        x.keep(0);
        x.would(0, 0, 5);
        x.loose(-1);
        x.ask(0);
        x.write('a');
        x.album();
        x.strip(0, 1);
        Due.row("16: the one alone", "1 0 0", x.count(8), x.undo(), x.count(2));
        Due.row("16: it cannot be undone that it was", "-4 0", x.undo(), x.count(2));
    }

    private static void undoOfAllPieces() {
        AlbumHours x = ofAllPieces();
        for (int left = 7; left >= 0; left--) Due.row("16: of all", left + " " + (48 + left), x.undo(), x.count(2));
        Due.row("16: no more, the seventh picture has none", "-4 0 8", x.undo(), x.picture(6, 1), x.picture(5, 1));
    }

    /** PIECES as they are now are kept: none. */
    private static void keepNone() {
        AlbumHours x = Due.of(THREE);
        Due.is("17: none", x.keep(0), 0);
        x.see(0, 0, 1);
        Due.row("18: none again", "0 0 -1 -1", x.back(0), x.count(2), x.told(0, 0), x.piece(0, 2, 0));
    }

    /** With their numbers: how many: of all 56. */
    private static void keepAll() {
        AlbumHours x = ofAllPieces();
        Due.is("17: all", x.keep(1), 56);
        for (int p = 0; p < 7; p++) x.strike(p, 0);
        x.see(0, 3, 9);
        Due.row("18: all again", "49 56 1 0 55", x.count(2), x.back(1), x.piece(0, 5, 0), x.piece(0, 0, 2), x.piece(6, 7, 2));
    }

    /** UNKNOWN: no such k (k 0, 1). */
    private static void keepWhich() {
        AlbumHours x = Due.of(THREE + ";see 0 0 1");
        int[] wrong = {-1, 2, LEAST, GREATEST};
        for (int k : wrong) Due.is("17: keep(" + k + ")", x.keep(k), Due.UNKNOWN);
        Due.row("17: nothing was kept by that", "-4 -4", x.back(0), x.back(1));
        Due.row("17: 0, 1", "1 1", x.keep(0), x.keep(1));
    }

    /** It is nothing to undo, and what can be undone can be yet. */
    private static void keepIsNoDeed() {
        AlbumHours x = Due.of(THREE);
        x.see(0, 0, 1);
        x.see(1, 0, 0);
        Due.row("17: it ends nothing", "2 2 1 1", x.keep(0), x.count(8), x.undo(), x.count(2));
        Due.row("17: what is undone is kept yet", "2 1", x.back(0), x.piece(1, 2, 2));
    }

    /** As they are now: later deeds change nothing of it, nor does what the other k keeps. */
    private static void keptIsKept() {
        AlbumHours x = Due.of(THREE);
        x.see(0, 0, 1);
        x.keep(0);
        x.see(0, 0, 0);
        x.see(1, 1, 1);
        x.keep(1);
        x.strike(0, 2);
        Due.row("18: back to 0", "1 1 -1", x.back(0), x.piece(0, 2, 0), x.piece(1, 3, 0));
        Due.row("18: back to 1", "2 0 1", x.back(1), x.piece(0, 2, 0), x.piece(1, 3, 0));
        x.point(2, 2, 2);
        Due.row("18: told since it came back", "3 2 1", x.count(2), x.back(1), x.back(0));
        Due.row("17: kept anew, the other as it was", "1 2", x.keep(0), x.back(1));
        x.see(2, 2, 1);
        Due.row("17: as it is now, in place of what was", "3 1 3", x.keep(1), x.back(0), x.back(1));
    }

    /** NOT: nothing was kept since the last text. */
    private static void backNothingKept() {
        AlbumHours x = Due.of(THREE);
        x.see(0, 0, 1);
        Due.row("18: nothing kept", "-4 -4 1 1", x.back(0), x.back(1), x.count(2), x.count(8));
        x.keep(1);
        Due.row("18: the other one alone", "-4 1 1", x.back(0), x.count(8), x.back(1));
    }

    /** UNKNOWN, ahead of NOT. */
    private static void backWhich() {
        AlbumHours x = Due.of(THREE + ";see 0 0 1");
        int[] wrong = {-1, 2, LEAST, GREATEST};
        for (int k : wrong) Due.is("18: back(" + k + "), nothing kept", x.back(k), Due.UNKNOWN);
        x.keep(0);
        x.keep(1);
        x.see(0, 0, 0);
        for (int k : wrong) Due.is("18: back(" + k + ")", x.back(k), Due.UNKNOWN);
        Due.row("18: nothing came back", "0 1", x.piece(0, 2, 0), x.count(8));
    }

    /** Nothing can be undone: neither what was told ahead of it, nor it; what is told behind it can. */
    private static void backAndUndo() {
        AlbumHours x = Due.of(THREE);
        x.see(0, 0, 1);
        x.keep(0);
        for (int v = 0; v < 9; v++) x.see(0, 3, v);
        Due.row("18: none", "1 0 -4", x.back(0), x.count(8), x.undo());
        Due.row("16: told behind it", "2 1 0 1 -4", x.point(0, 0, 0), x.count(8), x.undo(), x.count(2), x.undo());
        for (int v = 0; v < 9; v++) x.see(0, 3, v);
        Due.is("16: eight of nine", x.count(8), 8);
        for (int left = 7; left >= 0; left--) Due.row("16: back", left + " " + left, x.undo(), x.piece(0, 5, 0));
        Due.is("16: none", x.undo(), Due.NOT);
    }

    /** They are as they were kept: with their numbers, values, SLACKS. */
    private static void backNumbers() {
        AlbumHours x = Due.of(THREE + ";point 2 1 3;see 1 3 9");
        x.length(0, 7, 99);
        x.keep(0);
        x.strike(2, 0);
        x.point(2, 9, 9);
        x.see(1, 3, 0);
        Due.row("18: numbers", "3 0 1 2", x.back(0), x.piece(2, 0, 2), x.piece(1, 5, 2), x.piece(0, 1, 2));
        Due.row("18: values, slacks", "1 3 9 0 7 99", x.piece(2, 0, 0), x.piece(2, 0, 1), x.piece(1, 5, 0), x.piece(1, 5, 1), x.piece(0, 1, 0), x.piece(0, 1, 1));
        Due.row("10: in their order", "2 1 0 -1", x.told(0, 0), x.told(1, 0), x.told(2, 0), x.told(3, 0));
    }

    private static void backOfAllPieces() {
        AlbumHours x = Due.of(SEVEN, SIX);
        x.keep(0);
        for (int p = 0; p < 7; p++) for (int t = 0; t < 6; t++) x.see(p, t, 1);
        x.keep(1);
        Due.row("18: none, all, none", "0 -1 42 41 0", x.back(0), x.told(0, 0), x.back(1), x.piece(6, 7, 2), x.back(0));
        x.see(3, 0, 0);
        x.keep(1);
        Due.row("18: the orders, too", "5040 1 5040 0 5040 1", x.orders(), x.back(1), x.orders(), x.back(0), x.orders(), x.back(1));
        x.see(4, 0, 1);
        x.keep(1);
        Due.row("18: and who is before whom", "2520 1 0 5040 0 2 2520 1", x.orders(), x.before(3, 4), x.back(0), x.orders(), x.before(3, 4), x.back(1), x.orders(),
                x.before(3, 4));
    }

    /** Since the last text: one that was done; one with a FAULT is not, nor is one that is not yet done. */
    private static void backUntilTheNextText() {
        AlbumHours x = Due.of(THREE);
        x.keep(0);
        x.keep(1);
        Due.write(x, "album");
        Due.is("18: not yet done", x.back(0), 0);
        x.write(';');
        Due.row("18: with a fault", "-4 0 0", x.album(), x.back(0), x.back(1));
        Due.write(x, "album");
        Due.row("18: done", "2 -4 -4", x.album(), x.back(0), x.back(1));
        Due.row("18: kept since", "0 0 -4", x.keep(1), x.back(1), x.back(0));
    }
}
