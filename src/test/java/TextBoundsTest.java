/**
 * Promises 2 to 6 and the document's sentences on THE TEXT, each at its bounds: the bound, one below, one above.
 * The sentence stands above its test.
 */
public final class TextBoundsTest {
    private static final String SEVEN = "picture a;picture b;picture c;picture d;picture e;picture f;picture g";
    private static final String SIX = "thing comes;thing goes;thing passes;thing wears;thing comes;thing goes";
    private static final String SOME = "picture a;picture b;thing comes;thing wears";
    /** Each clause as its tokens, right behind SOME. */
    private static final String[][] CLAUSES = {{"album"}, {"sun", "18", "1", "1"}, {"picture", "c"}, {"thing", "goes"},
        {"point", "0", "0", "0"}, {"long", "1", "0", "0"}, {"see", "1", "1", "0"}};

    public static void main(String[] args) {
        letters();
        twoHundredLetters();
        aFullTextIsRead();
        erase();
        oneToTwentyFourClauses();
        semicolonBehindTheLast();
        wordsOfOneToFiveLetters();
        lettersOfAWord();
        unlikeWords();
        sevenPictures();
        sixThings();
        kinds();
        numbersWithinTheirBounds();
        valuesByKind();
        toldAhead();
        digits();
        blanks();
        tokensAreRows();
        otherLetters();
        whatCannotStandThere();
        theEndTooSoon();
        behindAClause();
        clausesInTheirOrder();
        allAsAtFirst();
        whatThereIsStays();
        nothingKept();
        noFault();
        find();
        findNone();
        Due.end();
    }

    private static String blanks(int many) {
        return " ".repeat(many);
    }

    private static String clauses(String clause, int many) {
        String all = clause;
        for (int i = 1; i < many; i++) all += ";" + clause;
        return all;
    }

    /** A letter (its number, 0 .. 255) more of THE TEXT: how many it has. OUTSIDE. */
    private static void letters() {
        AlbumHours x = new AlbumHours();
        int[] outside = {-1, 256, Integer.MIN_VALUE, Integer.MAX_VALUE};
        for (int letter : outside) Due.is("2: write(" + letter + "), nothing written yet", x.write(letter), Due.OUTSIDE);
        Due.is("2: no letter yet", x.count(9), 0);
        int[] good = {0, 1, 254, 255};
        for (int i = 0; i < good.length; i++) Due.is("2: write(" + good[i] + ")", x.write(good[i]), i + 1);
        for (int letter : outside) Due.is("2: write(" + letter + "), four written", x.write(letter), Due.OUTSIDE);
        Due.is("2: four letters yet", x.count(9), 4);
    }

    /** A row of letters, 200 at most. FULL: there would be more than 200 letters. */
    private static void twoHundredLetters() {
        AlbumHours x = new AlbumHours();
        Due.write(x, blanks(194) + "albu");
        Due.is("2: the 199th", x.write('m'), 199);
        Due.is("2: the 200th", x.write(' '), 200);
        Due.is("2: the 201st", x.write(';'), Due.FULL);
        Due.is("2: the 201st again", x.write(0), Due.FULL);
        Due.is("2: a 201st that is no letter", x.write(-1), Due.OUTSIDE);
        Due.is("2: a 201st above all letters", x.write(256), Due.OUTSIDE);
        Due.is("37: 200 letters", x.count(9), 200);
        Due.is("2: what was refused is not in the text", x.fault(), Due.NONE);
        Due.is("5: it can be done", x.album(), 1);
        Due.is("2: then it is empty", x.write('a'), 1);
    }

    /** A FAULT is at the first TOKEN that cannot stand there, or at the end: of the longest text, too. */
    private static void aFullTextIsRead() {
        Due.fault("", blanks(195) + "album", Due.NONE);
        Due.fault("", blanks(196) + "albu", 196);
        Due.fault("", "album" + blanks(195), Due.NONE);
        Due.fault("", "album" + blanks(194) + ";", 200);
        Due.fault("", "album" + blanks(194) + "x", 199);
        Due.fault("", "album;" + blanks(188) + "sun 18", 200);
        Due.fault("", blanks(199), 199);
        Due.fault("", blanks(200), 200);
        Due.fault("", "a".repeat(200), 0);
        Due.fault("", "0".repeat(200), 0);
        Due.fault("", "sun" + "0".repeat(197), 3);
        Due.fault("", "picture " + "a".repeat(192), 8);
        Due.fault("", ";".repeat(200), 0);
        Due.fault("", "sun 18 1 1" + blanks(187) + "sun", 197);
        Due.fault("", blanks(191) + "picture q", Due.NONE);
        for (int at = 0; at <= 200; at++) lookingChangesNothing(at);
    }

    /** Where ever the FAULT is, the text stays as it is: asked twice it answers alike. */
    private static void lookingChangesNothing(int at) {
        AlbumHours x = new AlbumHours();
        Due.write(x, blanks(at) + (at < 200 ? "q" : "") + blanks(Math.max(0, 199 - at)));
        Due.row("4: a fault at " + at, at + " " + at + " 200 -4 200 " + at, x.fault(), x.fault(), x.count(9), x.album(), x.count(9), x.fault());
    }

    /** THE TEXT is empty: how many letters it had. */
    private static void erase() {
        AlbumHours x = new AlbumHours();
        Due.is("3: none", x.erase(), 0);
        x.write(0);
        Due.is("3: one", x.erase(), 1);
        Due.is("3: none again", x.erase(), 0);
        Due.is("3: no letter is left", x.count(9), 0);
        Due.write(x, blanks(200));
        Due.is("3: 200", x.erase(), 200);
        Due.is("3: none is left of 200", x.erase(), 0);
        Due.is("3: the first letter then", x.write('a'), 1);
        x.erase();
        Due.write(x, "album");
        Due.is("3: what was there is not in the text", x.fault(), Due.NONE);
    }

    /** 1 to 24 CLAUSES with ; between. A FAULT: the ; behind a 24th CLAUSE. */
    private static void oneToTwentyFourClauses() {
        Due.fault("", "", 0);
        Due.fault("", ";", 0);
        int[] good = {1, 2, 23, 24};
        for (int many : good) {
            String text = clauses("album", many);
            Due.fault("", text, Due.NONE);
            AlbumHours x = new AlbumHours();
            Due.write(x, text);
            Due.is("5: " + many + " clauses", x.album(), many);
        }
        Due.fault("", clauses("album", 25), 143);
        Due.fault("", clauses("album", 26), 143);
        Due.fault("", clauses("album", 24) + "  ;album", 145);
        Due.fault("", clauses("album", 24) + "  ", Due.NONE);
        AlbumHours x = Due.of(SOME);
        Due.write(x, clauses("see 0 1 9", 19) + ";sun 18 1 1");
        Due.is("5: as many as there are letters for", x.album(), 20);
    }

    /** With ; between: at the end it comes too soon; the ; behind a 24th cannot stand there, what ever follows. */
    private static void semicolonBehindTheLast() {
        Due.fault("", "album;", 6);
        Due.fault("", "album;  ", 8);
        Due.fault("", clauses("album", 23) + ";", 138);
        Due.fault("", clauses("album", 24) + ";", 143);
        Due.fault("", clauses("album", 24) + "; ", 143);
        Due.fault("", clauses("album", 24) + ";;", 143);
        Due.fault("", clauses("album", 24) + "x", 138);
        Due.fault("", clauses("album", 24) + " x", 144);
        Due.fault("", clauses("album", 24) + "1", 143);
    }

    /** WORD: 1 to 5 small letters. A FAULT: a WORD of more letters, also. */
    private static void wordsOfOneToFiveLetters() {
        String[] words = {"a", "bc", "def", "ghij", "klmno"};
        AlbumHours x = Due.of("picture a;picture bc;picture def;picture ghij;picture klmno");
        for (int p = 0; p < 5; p++) Due.is("7: letters of " + words[p], x.picture(p, 0), p + 1);
        Due.fault("", "picture ;album", 8);
        Due.fault("", "picture abcdef", 8);
        Due.fault("", "picture abcdefg", 8);
        Due.fault("", "album;picture  zzzzzz;album", 15);
        Due.fault("", "picture zzzzz", Due.NONE);
        Due.is("7: five of the last letter", Due.of("picture zzzzz").picture(0, 0), 5);
        Due.is("7: five of the first letter", Due.of("picture aaaaa").picture(0, 0), 5);
    }

    /** Small letters a .. z. */
    private static void lettersOfAWord() {
        Due.fault("", "picture a", Due.NONE);
        Due.fault("", "picture z", Due.NONE);
        Due.fault("", "picture `", 8);
        Due.fault("", "picture {", 8);
        Due.fault("", "picture a`", 9);
        Due.fault("", "picture z{", 9);
        Due.fault("", "picture A", 8);
        Due.fault("", "picture aZ", 9);
        Due.fault("", "picture " + (char) 225, 8);
        Due.fault("", "picture 0", 8);
        Due.fault("", "picture a0", 9);
    }

    /** PICTURES each with a WORD, unlike ones; one like a word told already cannot stand there. */
    private static void unlikeWords() {
        Due.fault("picture a", "picture a", 8);
        Due.fault("picture a", "picture aa", Due.NONE);
        Due.fault("picture ab", "picture a", Due.NONE);
        Due.fault("picture ab", "picture ba", Due.NONE);
        Due.fault("picture abcde", "picture abcdf", Due.NONE);
        Due.fault("picture abcde", "picture bbcde", Due.NONE);
        Due.fault("picture abcde", "picture abcde", 8);
        Due.fault("", "picture b;picture a;picture b", 28);
        Due.fault("picture a;picture b;picture c", "picture c", 8);
        Due.fault("picture a;picture b;picture c", "picture d", Due.NONE);
        Due.fault("picture a", "album;picture a", Due.NONE);
        Due.fault("picture a", "album;picture a;picture a", 24);
        Due.fault("", "picture album;picture sun;picture thing;picture see", Due.NONE);
    }

    /** 7 at most (none at first): an eighth cannot stand there (at its word picture). */
    private static void sevenPictures() {
        Due.is("37: none at first", new AlbumHours().count(0), 0);
        Due.is("37: seven", Due.of(SEVEN).count(0), 7);
        Due.fault("", SEVEN, Due.NONE);
        Due.fault("", SEVEN + ";picture h", 70);
        Due.fault(SEVEN, "picture h", 0);
        Due.fault(SEVEN, "picture a", 0);
        Due.fault(SEVEN, "  picture", 2);
        Due.fault(SEVEN, "picture abcdef", 0);
        Due.fault(SEVEN, "pictures h", 0);
        Due.fault("picture a;picture b;picture c;picture d;picture e;picture f", "picture g", Due.NONE);
        Due.fault("picture a;picture b;picture c;picture d;picture e;picture f", "picture g;picture h", 10);
        Due.fault(SEVEN, "album;" + SEVEN, Due.NONE);
        Due.fault(SEVEN, "album;" + SEVEN + ";picture h", 76);
    }

    /** THINGS 6 at most (none at first): a seventh cannot. */
    private static void sixThings() {
        Due.is("37: none at first", new AlbumHours().count(1), 0);
        Due.is("37: six", Due.of(SIX).count(1), 6);
        Due.fault("", SIX, Due.NONE);
        Due.fault("", SIX + ";thing wears", 71);
        Due.fault(SIX, "thing comes", 0);
        Due.fault(SIX, " thing", 1);
        Due.fault(SIX, "thing x", 0);
        Due.fault("thing comes;thing goes;thing passes;thing wears;thing comes", "thing goes", Due.NONE);
        Due.fault("thing comes;thing goes;thing passes;thing wears;thing comes", "thing goes;thing goes", 11);
        Due.fault(SIX, "album;" + SIX, Due.NONE);
        Due.fault(SIX, "album;" + SIX + ";thing goes", 77);
    }

    /** K being comes, goes, passes, wears. */
    private static void kinds() {
        AlbumHours x = Due.of("thing wears;thing passes;thing goes;thing comes");
        for (int t = 0; t < 4; t++) Due.is("8: kind of " + t, x.thing(t, 0), 3 - t);
        String[] wrong = {"come", "comesa", "go", "goest", "pass", "passess", "wear", "wearss", "comed", "domes", "a", "Comes", "0", ";"};
        for (String kind : wrong) Due.fault("", "thing " + kind, 6);
    }

    /** The place of a # takes least .. most, nothing below (a sign is a letter of its own), nothing above. */
    private static void takes(String told, String clause, int least, int most) {
        int at = clause.indexOf('#');
        Due.fault(told, clause.replace("#", "" + (least - 1)), at);
        Due.fault(told, clause.replace("#", "" + least), Due.NONE);
        Due.fault(told, clause.replace("#", "" + most), Due.NONE);
        Due.fault(told, clause.replace("#", "" + (most + 1)), at);
        Due.fault(told, clause.replace("#", "999999999999999999999"), at);
    }

    /** A FAULT: a number out of its bounds. NOON 18 .. 30, GROWS 1 .. 9, LOW 1 .. 40; value, SLACK; PICTURE, THING told ahead. */
    private static void numbersWithinTheirBounds() {
        takes("", "sun # 4 5", 18, 30);
        takes("", "sun 24 # 5", 1, 9);
        takes("", "sun 24 4 #", 1, 40);
        takes("picture a", "point # 0 0", 0, 0);
        takes(SEVEN, "point # 0 0", 0, 6);
        takes("picture a", "point 0 # 0", 0, 24);
        takes("picture a", "point 0 0 #", 0, 9);
        takes("picture a", "long # 0 0", 0, 0);
        takes(SEVEN, "long # 0 0", 0, 6);
        takes("picture a", "long 0 # 0", 0, 999);
        takes("picture a", "long 0 0 #", 0, 99);
        takes(SOME, "see # 0 0", 0, 1);
        takes(SEVEN + ";thing goes", "see # 0 0", 0, 6);
        takes(SOME, "see 0 # 0", 0, 1);
        takes("picture a;" + SIX, "see 0 # 0", 0, 5);
    }

    /** Value 0 it is not there, 1 it is there; if it WEARS 0 .. 9. */
    private static void valuesByKind() {
        String told = "picture a;thing comes;thing goes;thing passes;thing wears";
        takes(told, "see 0 0 #", 0, 1);
        takes(told, "see 0 1 #", 0, 1);
        takes(told, "see 0 2 #", 0, 1);
        takes(told, "see 0 3 #", 0, 9);
    }

    /** To PICTURE P, told ahead; of THING T, told ahead both: in an earlier text, or further ahead in this one. */
    private static void toldAhead() {
        Due.fault("", "point 0 0 0", 6);
        Due.fault("", "long 0 0 0", 5);
        Due.fault("", "see 0 0 0", 4);
        Due.fault("", "picture a;see 0 0 0", 16);
        Due.fault("", "thing comes;see 0 0 0", 16);
        Due.fault("", "thing comes;picture a;see 0 0 0", Due.NONE);
        Due.fault("", "point 0 0 0;picture a", 6);
        Due.fault("picture a", "see 0 0 0;thing comes", 6);
        Due.fault("thing comes", "see 0 0 0;picture a", 4);
        Due.fault("picture a", "long 1 0 0;picture b", 5);
        Due.fault("picture a", "picture b;long 1 0 0", Due.NONE);
        Due.fault(SOME, "album;point 0 0 0", 12);
        Due.fault(SOME, "album;picture a;see 0 0 0", 22);
    }

    /** Numbers of 1 to 3 digits. A FAULT: a number of more digits, also. */
    private static void digits() {
        Due.fault("picture a", "point 0 0 0", Due.NONE);
        Due.fault("picture a", "point 00 24 09", Due.NONE);
        Due.fault("picture a", "point 000 024 009", Due.NONE);
        Due.fault("picture a", "point 0000 24 9", 6);
        Due.fault("picture a", "point 0 0024 9", 8);
        Due.fault("picture a", "point 0 24 0009", 11);
        Due.fault("picture a", "long 0 0999 9", 7);
        Due.fault("picture a", "long 0 100 099", Due.NONE);
        Due.fault("", "sun 018 009 040", Due.NONE);
        Due.fault("", "sun 0018 9 40", 4);
        Due.fault("", "sun 18 :9 40", 7);
        Due.fault("", "sun 18 9/40", 8);
        AlbumHours x = Due.of("picture a;long 000 099 009");
        Due.row("4: noughts ahead count for nothing", "99 9", x.piece(0, 1, 0), x.piece(0, 1, 1));
    }

    /** Blanks (32) may stand ahead of each TOKEN and behind the last, needed only where two rows would else be one. */
    private static void blanks() {
        Due.fault(SOME, "point0 1 2;long1 2 3;see0 1 9", Due.NONE);
        Due.fault(SOME, "  point  0  1  2  ;  album  ", Due.NONE);
        Due.fault(SOME, "album;album", Due.NONE);
        Due.fault(SOME, "album ; album", Due.NONE);
        Due.fault(SOME, "picturec", 0);
        Due.fault(SOME, "thinggoes", 0);
        Due.fault(SOME, "po int 0 1 2", 0);
        Due.fault(SOME, "point 01 2", 10);
        Due.fault(SOME, "point 0 12", 10);
        Due.fault(SOME, "point 0 1 2 3", 12);
        Due.fault(SOME, "long 0 1 00", Due.NONE);
        Due.fault(SOME, "long 0 1 0 0", 11);
        int[] noBlanks = {0, 9, 10, 13, 31, 33, 160};
        for (int letter : noBlanks) {
            Due.fault("", (char) letter + "album", 0);
            Due.fault("", "album" + (char) letter, 5);
            Due.fault("", "picture" + (char) letter + "c", 7);
        }
    }

    /** The first TOKEN: a row of small letters, a row of digits, any other letter; the letter with which it begins. */
    private static void tokensAreRows() {
        Due.fault("", "sun 18 1 1x", 10);
        Due.fault("", "sun 18x 1 1", 6);
        Due.fault("", "sunx 18 1 1", 0);
        Due.fault("", "sun x18 1 1", 4);
        Due.fault("", "album1", 5);
        Due.fault("", "1album", 0);
        Due.fault("", "album;;", 6);
        Due.fault("", "album..", 5);
        Due.fault("", "album ..", 6);
        Due.fault("", "sun 311 1 1", 4);
        Due.fault("", "sun 18 1 411", 9);
    }

    /** Any other letter. */
    private static void otherLetters() {
        int[] others = {0, 33, 47, 58, 60, 64, 65, 90, 96, 123, 126, 127, 128, 233, 255};
        for (int letter : others) {
            Due.fault("", "" + (char) letter, 0);
            Due.fault("", "album;" + (char) letter + (char) letter, 6);
            Due.fault("", "album " + (char) letter, 6);
        }
    }

    private static String upTo(String[] tokens, int many) {
        String text = "";
        for (int i = 0; i < many; i++) text += (i > 0 ? " " : "") + tokens[i];
        return text;
    }

    private static String[] wrongTokens(String right) {
        if (right.charAt(0) <= '9') return new String[] {"x", "album", ";", "#", "-1", "1000"};
        if (right.equals("c")) return new String[] {"7", ";", "#", "C", "abcdef", "a", "b"};
        return new String[] {"7", ";", "#", right + "x", right.substring(1), right.toUpperCase()};
    }

    /** A FAULT is at the first TOKEN that cannot stand there: each token of each clause. */
    private static void whatCannotStandThere() {
        for (String[] clause : CLAUSES) {
            for (int i = 0; i < clause.length; i++) {
                String ahead = upTo(clause, i) + (i > 0 ? " " : "");
                for (String wrong : wrongTokens(clause[i])) {
                    Due.fault(SOME, ahead + wrong, ahead.length());
                    Due.fault(SOME, ahead + wrong + " # ;", ahead.length());
                    Due.fault(SOME, "sun 20 2 2; " + ahead + wrong + ";#", 12 + ahead.length());
                }
            }
        }
    }

    /** Or at the end, if it comes too soon: the length. */
    private static void theEndTooSoon() {
        for (String[] clause : CLAUSES) {
            for (int i = 0; i < clause.length; i++) {
                String text = upTo(clause, i);
                Due.fault(SOME, text, text.length());
                Due.fault(SOME, text + "   ", text.length() + 3);
                Due.fault(SOME, "album;" + SOME + ";" + text, 7 + SOME.length() + text.length());
            }
            Due.fault(SOME, upTo(clause, clause.length), Due.NONE);
        }
    }

    /** Behind a whole clause a ; alone can stand. */
    private static void behindAClause() {
        String[] wrong = {"x", "album", "7", "#", ","};
        for (String[] clause : CLAUSES) {
            String whole = upTo(clause, clause.length);
            for (String token : wrong) Due.fault(SOME, whole + " " + token, whole.length() + 1);
            Due.fault(SOME, whole + ";", whole.length() + 1);
            Due.fault(SOME, whole + " ; ;", whole.length() + 3);
            Due.fault(SOME, whole + ";album", Due.NONE);
        }
    }

    /** CLAUSES are done in their order. */
    private static void clausesInTheirOrder() {
        AlbumHours x = Due.of("sun 20 2 2;sun 21 3 3;picture b;picture a;point 1 1 1;point 0 2 2;point 1 3 3;sun 22 4 4");
        Due.row("5: the last sun holds", "22 4 4", x.count(4), x.count(5), x.count(6));
        Due.row("5: pieces as they came, the last value", "2 1 0 3 3", x.count(2), x.told(0, 0), x.told(1, 0), x.piece(1, 0, 0), x.piece(1, 0, 1));
        Due.write(x, "a");
        Due.is("5: the second picture", x.find(), 1);
    }

    /** Album: all as at first. */
    private static void allAsAtFirst() {
        AlbumHours x = Due.of("sun 30 9 40;" + SOME + ";point 0 0 0;see 1 1 9", "album");
        for (int what = 0; what < 10; what++) Due.is("5: count(" + what + ")", x.count(what), new AlbumHours().count(what));
        Due.row("5: no picture, no thing, no piece", "-2 -2 -1", x.picture(0, 0), x.thing(0, 0), x.told(0, 0));
        Due.tell(x, "picture z;album;picture a;thing goes;see 0 0 1;album;picture q");
        Due.row("5: what stands behind the last album", "1 0 0 1", x.count(0), x.count(1), x.count(2), x.picture(0, 0));
    }

    /** What there is stays. */
    private static void whatThereIsStays() {
        AlbumHours x = Due.of("sun 30 9 40;" + SOME + ";point 0 7 1;see 1 1 9", "picture q;thing passes;long 2 5 5");
        Due.row("5: counts", "3 3 3 30 9 40", x.count(0), x.count(1), x.count(2), x.count(4), x.count(5), x.count(6));
        Due.row("5: the pieces", "0 7 1 1 9 2 5", x.piece(0, 0, 2), x.piece(0, 0, 0), x.piece(0, 0, 1), x.piece(1, 3, 2), x.piece(1, 3, 0),
                x.piece(2, 1, 2), x.piece(2, 1, 0));
    }

    /** Behind them nothing is kept or can be undone; STRIPS are all missing: behind any text, if none was changed, too. */
    private static void nothingKept() {
        AlbumHours x = Due.of(SOME);
        x.point(0, 1, 1);
        x.keep(0);
        x.keep(1);
        for (int s = 0; s < 3; s++) x.strip(s, s);
        Due.tell(x, "sun 24 4 5");
        Due.row("16: none can be undone", "0 -4", x.count(8), x.undo());
        Due.row("18: nothing is kept", "-4 -4", x.back(0), x.back(1));
        Due.row("35: all missing", "-11 -11 -11 0", x.drop(0), x.drop(1), x.drop(2), x.count(7));
        Due.is("5: the piece stays", x.count(2), 1);
    }

    /** NOT: it has a FAULT; nothing changes. NONE: it has none, and nothing changes by looking. */
    private static void noFault() {
        AlbumHours x = Due.of(SOME);
        x.point(0, 1, 1);
        x.keep(0);
        x.strip(1, 4);
        Due.is("5: an empty text", x.album(), Due.NOT);
        Due.write(x, "album;picture q;sun 20 2 2;");
        Due.row("5: a fault at the end", "27 -4 -4", x.fault(), x.album(), x.album());
        Due.row("5: nothing of it is done", "2 2 1 24 4 5 4 1 27", x.count(0), x.count(1), x.count(2), x.count(4), x.count(5), x.count(6),
                x.count(7), x.count(8), x.count(9));
        Due.row("18: it is kept yet", "1", x.back(0));
        Due.write(x, "album");
        Due.row("4: no fault, twice", "-1 -1", x.fault(), x.fault());
        Due.row("4: nothing is done by looking", "2 2 1 32", x.count(0), x.count(1), x.count(2), x.count(9));
        Due.row("5: now it is", "4 0 0 0 0", x.album(), x.count(0), x.count(1), x.count(2), x.count(9));
    }

    private static int found(String told, String text) {
        AlbumHours x = Due.of(told);
        Due.write(x, text);
        int found = x.find();
        Due.is("6: the text stays", x.count(9), text.length());
        return found;
    }

    /** The PICTURE whose WORD THE TEXT is (all blanks left out). */
    private static void find() {
        Due.is("6: the first", found(SEVEN, "a"), 0);
        Due.is("6: the last", found(SEVEN, "g"), 6);
        String told = "picture a;picture abcde;picture abcd;picture zzzzz";
        Due.is("6: five letters", found(told, "abcde"), 1);
        Due.is("6: four of them", found(told, "abcd"), 2);
        Due.is("6: the last letter five times", found(told, "zzzzz"), 3);
        Due.is("6: blanks ahead, between, behind", found(told, "  a b  cde "), 1);
        Due.is("6: in 200 letters", found(told, blanks(100) + "ab" + blanks(95) + "cde"), 1);
        Due.is("6: the last of 200 letters", found(told, blanks(199) + "a"), 0);
    }

    private static void findNone() {
        String told = "picture a;picture abcde";
        String[] none = {"", " ", "b", "ab", "abcd", "abcdef", "abcdeabcde", "aa", "A", "a;", "a" + (char) 0, "a" + (char) 160, "1", "`", "{", "`a", "``a", "a`", "{a",
            "aaaaaaabcde", "a`abcde", "aabcde", "abcde`", "@a"};
        for (String text : none) Due.is("6: find() of '" + text + "'", found(told, text), Due.NONE);
        Due.is("6: of 200 blanks", found(told, blanks(200)), Due.NONE);
        Due.is("6: of 200 letters", found(told, "a".repeat(200)), Due.NONE);
        Due.is("6: no pictures, no text", found("", ""), Due.NONE);
        Due.is("6: no pictures", found("", "a"), Due.NONE);
        AlbumHours x = Due.of("picture a", "album");
        x.write('a');
        Due.is("6: none since the album is new", x.find(), Due.NONE);
    }
}
