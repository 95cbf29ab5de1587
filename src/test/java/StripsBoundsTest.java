/**
 * Promises 29 to 37 and the document's sentences on STRIPS, each at its bounds: the bound, one below, one above;
 * missing, of no places, full; a wrap-around; what is refused changes nothing. The sentence stands above its test.
 */
public final class StripsBoundsTest {
    private static final String SEVEN = "picture a;picture b;picture c;picture d;picture e;picture f;picture g";
    private static final int LEAST = Integer.MIN_VALUE, GREATEST = Integer.MAX_VALUE;

    public static void main(String[] args) {
        missingAtFirst();
        noughtToEightPlaces();
        threeStrips();
        aNewOne();
        setBounds();
        setMissing();
        setSign();
        loadAllAndNone();
        loadTheLastSlot();
        loadRefused();
        loadIsNotTheLatest();
        workBoth();
        workEither();
        workHigher();
        workLower();
        lowestSixBits();
        workPlaces();
        workMoves();
        workWays();
        workMissing();
        bitsOfNoneAndAll();
        bitsRefused();
        sumOfNone();
        sumWrapsAround();
        sumOfEight();
        sumRefused();
        dropWhat();
        dropRefused();
        latestAtFirst();
        latestStays();
        countWhat();
        countPlaces();
        countAtItsMost();
        Due.end();
    }

    private static long at(AlbumHours x, int strip, int i) {
        x.work(strip, i, 2, 0);
        return x.latest();
    }

    /** STRIPS 0 .. 2 are missing (at first): NULL. */
    private static void missingAtFirst() {
        AlbumHours x = Due.of("picture a");
        for (int s = 0; s < 3; s++) {
            Due.row("29 to 35: strip " + s, "-11 -11 -11 -11 -11 -11", x.set(s, 0, 1), x.load(s, 0, 0, 0), x.work(s, 0, 0, 0), x.bits(s, 0), x.sum(s), x.drop(s));
        }
        Due.row("37: no places, no latest", "0 0", x.count(7), x.latest());
    }

    /** Rows of 0 to 8 longs. OUTSIDE: n above 8; SIZE (fewer than none). */
    private static void noughtToEightPlaces() {
        AlbumHours x = new AlbumHours();
        Due.row("29: fewer than none", "-13 -13", x.strip(0, -1), x.strip(0, LEAST));
        Due.row("29: above 8", "-3 -3", x.strip(0, 9), x.strip(0, GREATEST));
        Due.row("29: it is missing yet", "-11 0", x.drop(0), x.count(7));
        for (int n = 0; n <= 8; n++) {
            Due.row("29: of " + n, n + " " + n + " " + n, x.strip(0, n), x.count(7), x.sum(0));
            Due.row("33: its last place, one beyond", (n == 0 ? -12 : 0) + " -12", x.bits(0, n - 1), x.bits(0, n));
        }
        x.set(0, 7, 3);
        Due.row("29: refused, the strip stands", "-13 -3 8 2", x.strip(0, -1), x.strip(0, 9), x.count(7), x.bits(0, 7));
    }

    /** UNKNOWN (no such STRIP), ahead of OUTSIDE, SIZE. */
    private static void threeStrips() {
        AlbumHours x = new AlbumHours();
        int[] wrong = {-1, 3, LEAST, GREATEST};
        for (int s : wrong) Due.row("29: strip " + s, "-2 -2 -2", x.strip(s, 0), x.strip(s, 9), x.strip(s, -1));
        Due.row("29: 0, 1, 2", "1 2 3 6", x.strip(0, 1), x.strip(1, 2), x.strip(2, 3), x.count(7));
    }

    /** A STRIP is a new one of n noughts: in place of a longer, a shorter one; the others as they were. */
    private static void aNewOne() {
        AlbumHours x = new AlbumHours();
        for (int s = 0; s < 3; s++) {
            x.strip(s, 8);
            for (int i = 0; i < 8; i++) x.set(s, i, 7);
        }
        Due.row("29: of fewer", "1 0 -12 17", x.strip(1, 1), x.bits(1, 0), x.bits(1, 1), x.count(7));
        x.set(1, 0, 7);
        Due.is("29: of more", x.strip(1, 8), 8);
        for (int i = 0; i < 8; i++) Due.row("29: noughts, beside them what was", "0 3 3", x.bits(1, i), x.bits(0, i), x.bits(2, i));
        Due.row("29: of none", "0 -12 0", x.strip(0, 0), x.bits(0, 0), x.sum(0));
    }

    /** Place i of a STRIP is v: 1. INDEX: it has no such place. */
    private static void setBounds() {
        AlbumHours x = new AlbumHours();
        x.strip(1, 8);
        Due.row("30: the first, the last", "1 1 2 3", x.set(1, 0, 3), x.set(1, 7, 7), x.bits(1, 0), x.bits(1, 7));
        int[] wrong = {-1, 8, LEAST, GREATEST};
        for (int i : wrong) Due.is("30: place " + i, x.set(1, i, 1), Due.INDEX);
        for (int i = 1; i < 7; i++) Due.is("30: between", x.bits(1, i), 0);
        x.strip(1, 1);
        Due.row("30: of one place", "-12 1 -12", x.set(1, -1, 1), x.set(1, 0, 1), x.set(1, 1, 1));
        x.strip(1, 0);
        Due.row("30: of none", "-12 -12", x.set(1, 0, 1), x.set(1, -1, 1));
    }

    /** UNKNOWN; NULL; INDEX: the first of these that fits. */
    private static void setMissing() {
        AlbumHours x = new AlbumHours();
        x.strip(1, 2);
        int[] wrong = {-1, 3, LEAST, GREATEST};
        for (int s : wrong) Due.row("30: strip " + s, "-2 -2", x.set(s, 0, 1), x.set(s, -1, 1));
        Due.row("30: missing", "-11 -11 -11", x.set(0, 0, 1), x.set(0, -1, 1), x.set(2, 8, 1));
        Due.is("30: missing yet", x.bits(0, 0), Due.NULL);
    }

    /** A long: the least and the greatest number that can be set, with its sign. */
    private static void setSign() {
        AlbumHours x = new AlbumHours();
        x.strip(0, 5);
        int[] values = {LEAST, -1, 0, 1, GREATEST};
        for (int i = 0; i < 5; i++) x.set(0, i, values[i]);
        for (int i = 0; i < 5; i++) Due.is("30: " + values[i], at(x, 0, i), values[i]);
        Due.row("33: bits", "33 64 0 1 31", x.bits(0, 0), x.bits(0, 1), x.bits(0, 2), x.bits(0, 3), x.bits(0, 4));
    }

    /** The bits of WINDOW (what 0), of LEFT (1) of a PICTURE: how many there are: all, none. */
    private static void loadAllAndNone() {
        AlbumHours x = Due.of("picture a;picture b;thing comes;see 0 0 0;see 1 0 1");
        x.strip(0, 8);
        x.set(0, 7, -1);
        Due.row("31: windows", "48 48", x.load(0, 0, 0, 0), x.load(0, 7, 1, 0));
        Due.row("31: left", "47 47", x.load(0, 1, 0, 1), x.load(0, 2, 1, 1));
        Due.row("31: their bits", (1L << 48) - 1 + " " + ((1L << 48) - 1) + " " + ((1L << 47) - 1) + " " + ((1L << 48) - 2), at(x, 0, 0), at(x, 0, 7), at(x, 0, 1), at(x, 0, 2));
        x.length(0, 4, 0);
        Due.row("31: none", "0 0 48 0", x.load(0, 0, 0, 0), x.load(0, 1, 0, 1), x.load(0, 7, 1, 0), x.load(0, 2, 1, 1));
        Due.row("31: their bits", "0 0 " + ((1L << 48) - 1) + " 0", at(x, 0, 0), at(x, 0, 1), at(x, 0, 7), at(x, 0, 2));
    }

    private static void loadTheLastSlot() {
        AlbumHours x = Due.of("sun 30 1 1;picture a;point 0 24 0", "sun 30 1 2");
        x.strip(2, 1);
        Due.row("31: slot 42 alone", "1 " + (1L << 42), x.load(2, 0, 0, 0), at(x, 2, 0));
        Due.tell(x, "sun 18 1 1;point 0 0 0");
        x.strip(2, 1);
        Due.row("31: slot 6 alone", "1 64", x.load(2, 0, 0, 1), at(x, 2, 0));
    }

    /** UNKNOWN (STRIP, PICTURE); OUTSIDE; NULL; INDEX: the first of these that fits. */
    private static void loadRefused() {
        AlbumHours x = Due.of(SEVEN);
        x.strip(1, 2);
        x.set(1, 0, 7);
        int[] strips = {-1, 3, LEAST, GREATEST};
        int[] pictures = {-1, 7, LEAST, GREATEST};
        int[] whats = {-1, 2, LEAST, GREATEST};
        int[] places = {-1, 2, 8, LEAST, GREATEST};
        for (int s : strips) Due.row("31: strip " + s, "-2 -2 -2", x.load(s, 0, 0, 0), x.load(s, 0, 0, 2), x.load(s, -1, 0, 0));
        for (int p : pictures) Due.row("31: picture " + p, "-2 -2 -2 -2", x.load(1, 0, p, 0), x.load(1, 0, p, 2), x.load(0, 0, p, 0), x.load(1, 2, p, 0));
        for (int what : whats) Due.row("31: what " + what, "-3 -3 -3", x.load(1, 0, 6, what), x.load(0, 0, 0, what), x.load(1, 2, 0, what));
        for (int i : places) Due.row("31: place " + i, "-12 -12 -11 -11", x.load(1, i, 0, 0), x.load(1, i, 6, 1), x.load(0, i, 0, 0), x.load(2, i, 0, 1));
        Due.row("31: nothing changed", "3 0 0", x.bits(1, 0), x.bits(1, 1), x.latest());
        Due.row("31: the first and the last of all", "48 48", x.load(1, 0, 0, 0), x.load(1, 1, 6, 1));
        Due.row("31: no pictures", "-2", new AlbumHours().load(0, 0, 0, 0));
    }

    private static void loadIsNotTheLatest() {
        AlbumHours x = Due.of("picture a");
        x.strip(0, 1);
        x.load(0, 0, 0, 0);
        Due.is("31: that is not the latest", x.latest(), 0);
    }

    /** Way 0 its bits that place j has, too: 1; that is the LATEST. */
    private static void workBoth() {
        AlbumHours x = new AlbumHours();
        x.strip(0, 8);
        x.set(0, 0, 12);
        x.set(0, 7, 10);
        Due.row("32: the first by the last", "1 8 8 10", x.work(0, 0, 0, 7), x.latest(), at(x, 0, 0), at(x, 0, 7));
        x.set(0, 1, -1);
        x.set(0, 2, LEAST);
        Due.row("32: all bits by some, by none", "1 " + LEAST + " 1 0", x.work(0, 1, 0, 2), x.latest(), x.work(0, 1, 0, 3), x.latest());
        Due.row("32: by itself", "1 10", x.work(0, 7, 0, 7), x.latest());
    }

    /** 1 those that either has. */
    private static void workEither() {
        AlbumHours x = new AlbumHours();
        x.strip(2, 8);
        x.set(2, 0, 12);
        x.set(2, 7, 10);
        Due.row("32: the last by the first", "1 14 14 12", x.work(2, 7, 1, 0), x.latest(), at(x, 2, 7), at(x, 2, 0));
        x.set(2, 1, LEAST);
        x.set(2, 2, GREATEST);
        Due.row("32: all bits, none more", "1 -1 1 -1", x.work(2, 1, 1, 2), x.latest(), x.work(2, 1, 1, 3), x.latest());
        Due.row("32: by itself", "1 12", x.work(2, 0, 1, 0), x.latest());
    }

    /** 2 its bits j (0 .. 99) places higher, as the machine moves a long: beyond the 64th they are gone. */
    private static void workHigher() {
        long[] due = {5, 10, 5L << 61, 5L << 62, 5L << 63, 5, 10, 5L << 35};
        int[] moves = {0, 1, 61, 62, 63, 64, 65, 99};
        for (int i = 0; i < due.length; i++) {
            AlbumHours x = new AlbumHours();
            x.strip(0, 1);
            x.set(0, 0, 5);
            Due.row("32: higher by " + moves[i], "1 " + due[i] + " " + due[i], x.work(0, 0, 2, moves[i]), x.latest(), at(x, 0, 0));
        }
    }

    /** 3 j places lower, with its sign. */
    private static void workLower() {
        int[] moves = {0, 1, 2, 62, 63, 64, 65, 99};
        long[] below = {-6, -3, -2, -1, -1, -6, -3, -1};
        long[] above = {6, 3, 1, 0, 0, 6, 3, 0};
        for (int i = 0; i < moves.length; i++) {
            AlbumHours x = new AlbumHours();
            x.strip(0, 2);
            x.set(0, 0, -6);
            x.set(0, 1, 6);
            Due.row("32: lower by " + moves[i], "1 " + below[i] + " 1 " + above[i], x.work(0, 0, 3, moves[i]), x.latest(), x.work(0, 1, 3, moves[i]), x.latest());
        }
    }

    /** The lowest six bits of j alone count: 63, 64, 65, 99. */
    private static void lowestSixBits() {
        for (int j = 0; j <= 99; j++) {
            AlbumHours x = new AlbumHours();
            x.strip(1, 1);
            x.set(1, 0, 1);
            Due.row("32: higher by " + j, "1 " + (1L << j % 64), x.work(1, 0, 2, j), x.latest());
            x.set(1, 0, -1);
            x.work(1, 0, 2, 63);
            Due.row("32: lower by " + j, "1 " + (Long.MIN_VALUE >> j % 64), x.work(1, 0, 3, j), x.latest());
        }
    }

    /** INDEX (ways 0, 1: either place). */
    private static void workPlaces() {
        AlbumHours x = new AlbumHours();
        x.strip(0, 3);
        x.set(0, 1, 9);
        int[] wrong = {-1, 3, 8, LEAST, GREATEST};
        for (int place : wrong) {
            for (int way = 0; way < 2; way++) {
                Due.row("32: way " + way + ", place " + place, "-12 -12 -12", x.work(0, place, way, 0), x.work(0, 0, way, place), x.work(0, place, way, place));
            }
            for (int way = 2; way < 4; way++) Due.is("32: way " + way + ", place " + place, x.work(0, place, way, 3), Due.INDEX);
        }
        Due.row("32: the first and the last", "1 1 1 1", x.work(0, 0, 0, 2), x.work(0, 2, 1, 0), x.work(0, 2, 2, 3), x.work(0, 0, 3, 3));
        x.strip(0, 0);
        Due.row("32: of no places", "-12 -12", x.work(0, 0, 0, 0), x.work(0, 0, 2, 0));
    }

    /** OUTSIDE: j (ways 2, 3: beyond 0 .. 99), ahead of NULL, INDEX. */
    private static void workMoves() {
        AlbumHours x = new AlbumHours();
        x.strip(0, 1);
        x.set(0, 0, 9);
        int[] wrong = {-1, 100, LEAST, GREATEST};
        for (int j : wrong) {
            for (int way = 2; way < 4; way++) Due.row("32: way " + way + ", j " + j, "-3 -3 -3", x.work(0, 0, way, j), x.work(1, 0, way, j), x.work(0, 1, way, j));
        }
        Due.row("32: nothing changed", "0 2", x.latest(), x.bits(0, 0));
        Due.row("32: 0, 99", "1 1 1 1", x.work(0, 0, 2, 0), x.work(0, 0, 2, 99), x.work(0, 0, 3, 0), x.work(0, 0, 3, 99));
    }

    /** OUTSIDE: way (0 .. 3), ahead of NULL, INDEX; UNKNOWN ahead of it. */
    private static void workWays() {
        AlbumHours x = new AlbumHours();
        x.strip(0, 1);
        int[] ways = {-1, 4, LEAST, GREATEST};
        int[] strips = {-1, 3, LEAST, GREATEST};
        for (int way : ways) Due.row("32: way " + way, "-3 -3 -3 -3", x.work(0, 0, way, 0), x.work(1, 0, way, 0), x.work(0, 1, way, 0), x.work(0, 0, way, 100));
        for (int s : strips) Due.row("32: strip " + s, "-2 -2 -2 -2", x.work(s, 0, 0, 0), x.work(s, 0, 4, 0), x.work(s, 0, 2, 100), x.work(s, 9, 0, 9));
        Due.row("32: nothing changed", "0 0", x.latest(), x.bits(0, 0));
    }

    /** NULL, ahead of INDEX. */
    private static void workMissing() {
        AlbumHours x = new AlbumHours();
        x.strip(1, 1);
        for (int way = 0; way < 4; way++) Due.row("32: missing, way " + way, "-11 -11 -11", x.work(0, 0, way, 0), x.work(0, -1, way, 0), x.work(2, 8, way, 8));
    }

    /** How many of the 64 bits of place i are 1: none, one, all. */
    private static void bitsOfNoneAndAll() {
        AlbumHours x = new AlbumHours();
        x.strip(0, 8);
        x.set(0, 7, -1);
        x.set(0, 6, 1);
        Due.row("33: none, one, all", "0 1 64", x.bits(0, 0), x.bits(0, 6), x.bits(0, 7));
        x.work(0, 6, 2, 63);
        x.work(0, 7, 2, 1);
        Due.row("33: the sign, all but one", "1 63", x.bits(0, 6), x.bits(0, 7));
    }

    private static void bitsRefused() {
        AlbumHours x = new AlbumHours();
        x.strip(0, 1);
        int[] strips = {-1, 3, LEAST, GREATEST};
        int[] places = {-1, 1, 8, LEAST, GREATEST};
        for (int s : strips) Due.row("33: strip " + s, "-2 -2", x.bits(s, 0), x.bits(s, -1));
        for (int i : places) Due.row("33: place " + i, "-12 -11", x.bits(0, i), x.bits(2, i));
        Due.is("33: the place", x.bits(0, 0), 0);
    }

    /** All places of a STRIP together are the LATEST: how many places: none. */
    private static void sumOfNone() {
        AlbumHours x = new AlbumHours();
        x.strip(0, 1);
        x.set(0, 0, 7);
        Due.row("34: one", "1 7", x.sum(0), x.latest());
        x.strip(1, 0);
        Due.row("34: none, the latest is then 0", "0 0", x.sum(1), x.latest());
    }

    /** As the machine adds: over the greatest long, and back below the least. */
    private static void sumWrapsAround() {
        AlbumHours x = new AlbumHours();
        x.strip(0, 3);
        x.set(0, 0, -1);
        x.work(0, 0, 2, 63);
        Due.row("34: the least", "3 " + Long.MIN_VALUE, x.sum(0), x.latest());
        x.set(0, 1, -1);
        Due.row("34: one below it", "3 " + Long.MAX_VALUE, x.sum(0), x.latest());
        x.set(0, 2, 1);
        Due.row("34: one above that", "3 " + Long.MIN_VALUE, x.sum(0), x.latest());
        x.set(0, 1, 1);
        x.work(0, 1, 2, 63);
        Due.row("34: the least twice, and one", "3 1", x.sum(0), x.latest());
    }

    private static void sumOfEight() {
        AlbumHours x = new AlbumHours();
        x.strip(2, 8);
        for (int i = 0; i < 8; i++) x.set(2, i, GREATEST);
        Due.row("34: eight", "8 " + 8L * GREATEST, x.sum(2), x.latest());
        for (int i = 0; i < 8; i++) x.set(2, i, LEAST);
        Due.row("34: eight of the least", "8 " + 8L * LEAST, x.sum(2), x.latest());
    }

    /** UNKNOWN; NULL: the LATEST stays. */
    private static void sumRefused() {
        AlbumHours x = new AlbumHours();
        x.strip(1, 1);
        x.set(1, 0, 5);
        x.sum(1);
        Due.row("34: no such strip", "-2 -2 -2 -2", x.sum(-1), x.sum(3), x.sum(LEAST), x.sum(GREATEST));
        Due.row("34: missing ones", "-11 -11 5", x.sum(0), x.sum(2), x.latest());
    }

    /** A STRIP is missing from now on: how many places it had: none, eight. */
    private static void dropWhat() {
        AlbumHours x = new AlbumHours();
        x.strip(0, 0);
        x.strip(1, 8);
        x.strip(2, 3);
        Due.row("35: of none, of eight", "0 8 3", x.drop(0), x.drop(1), x.count(7));
        Due.row("35: missing, the third is not", "-11 -11 0", x.bits(0, 0), x.bits(1, 0), x.bits(2, 0));
        Due.row("35: new again, of noughts", "8 0 0", x.strip(1, 8), x.bits(1, 0), x.bits(1, 7));
    }

    /** UNKNOWN; NULL: missing already. */
    private static void dropRefused() {
        AlbumHours x = new AlbumHours();
        x.strip(1, 2);
        Due.row("35: no such strip", "-2 -2 -2 -2", x.drop(-1), x.drop(3), x.drop(LEAST), x.drop(GREATEST));
        Due.row("35: missing at first, missing since", "-11 -11 2 -11", x.drop(0), x.drop(2), x.drop(1), x.drop(1));
    }

    /** The LATEST is a long (0 at first). */
    private static void latestAtFirst() {
        AlbumHours x = new AlbumHours();
        Due.is("36: at first", x.latest(), 0);
        x.strip(0, 1);
        x.set(0, 0, 9);
        Due.is("36: nothing worked yet", x.latest(), 0);
        x.work(0, 0, 2, 59);
        Due.is("36: a long", x.latest(), 9L << 59);
    }

    /** It stays: when its strip is told otherwise, dropped, behind a text, behind what was refused. */
    private static void latestStays() {
        AlbumHours x = Due.of("picture a");
        x.strip(0, 1);
        x.set(0, 0, -9);
        x.sum(0);
        x.set(0, 0, 1);
        Due.is("36: a place set since", x.latest(), -9);
        x.strip(0, 2);
        x.drop(0);
        Due.is("36: dropped since", x.latest(), -9);
        Due.row("36: refused since", "-11 -11 -2 -3 -9", x.sum(0), x.work(0, 0, 0, 0), x.work(3, 0, 0, 0), x.work(0, 0, 4, 0), x.latest());
        Due.tell(x, "album");
        Due.is("36: as at first, but it", x.latest(), -9);
    }

    /** OUTSIDE: what 0 .. 9. */
    private static void countWhat() {
        AlbumHours x = new AlbumHours();
        int[] wrong = {-1, 10, LEAST, GREATEST};
        for (int what : wrong) Due.row("37: what " + what, "-3 -3", x.count(what), Due.of(SEVEN).count(what));
        Due.row("37: the first, the last", "0 0", x.count(0), x.count(9));
    }

    /** 7 places of all STRIPS: none to 24. */
    private static void countPlaces() {
        AlbumHours x = new AlbumHours();
        Due.is("37: none", x.count(7), 0);
        x.strip(0, 0);
        Due.is("37: a strip of none", x.count(7), 0);
        x.strip(2, 1);
        Due.is("37: one", x.count(7), 1);
        for (int s = 0; s < 3; s++) x.strip(s, 8);
        Due.is("37: all", x.count(7), 24);
        x.drop(1);
        Due.is("37: all of two", x.count(7), 16);
    }

    /** Each count at its most. */
    private static void countAtItsMost() {
        AlbumHours x = Due.of(SEVEN, "thing comes;thing goes;thing passes;thing wears;thing comes;thing goes;sun 30 9 40");
        for (int p = 0; p < 7; p++) {
            for (int t = 0; t < 6; t++) x.see(p, t, t == 0 && p > 3 || t == 1 && p > 3 ? 0 : 1);
            x.point(p, 1, 1);
            x.length(p, 1, 1);
        }
        for (int s = 0; s < 3; s++) x.strip(s, 8);
        Due.row("37: all but the letters", "7 6 56 42 30 9 40 24 8 0", x.count(0), x.count(1), x.count(2), x.count(3), x.count(4), x.count(5), x.count(6),
                x.count(7), x.count(8), x.count(9));
        AlbumHours y = new AlbumHours();
        for (int i = 0; i < 201; i++) y.write(' ');
        Due.is("37: letters", y.count(9), 200);
    }
}
