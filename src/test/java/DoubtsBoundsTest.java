/**
 * Promises 25 to 28 and the document's sentences on KNOT, LOOSE, WOULD and ASK, each at its bounds: the bound, one
 * below, one above; nothing told yet, as much as can be told. The sentence stands above its test.
 */
public final class DoubtsBoundsTest {
    private static final String SEVEN = "picture a;picture b;picture c;picture d;picture e;picture f;picture g";
    private static final String SIX = "thing comes;thing goes;thing passes;thing wears;thing comes;thing goes";
    private static final int LEAST = Integer.MIN_VALUE, GREATEST = Integer.MAX_VALUE;

    public static void main(String[] args) {
        knotNone();
        knotOfOne();
        knotOfTwoToSeven();
        knotByThings();
        knotByPassing();
        knotFewestFirst();
        knotLeastNumber();
        knotOfWhichAlone();
        refusedKnot();
        looseNone();
        looseThatAlone();
        looseByNumbers();
        looseOfAll();
        looseOfAllPieces();
        refusedLoose();
        wouldOfOne();
        wouldInPlace();
        wouldWithoutSlack();
        wouldWhereNoneAre();
        wouldOfAllPieces();
        wouldChangesNothing();
        refusedWould();
        askNone();
        askLessThanThereAre();
        askTheGreaterOfTwo();
        askOfLikeOnes();
        askOfLikeOnesByOne();
        askPictureAheadOfMatter();
        askNotWhatWears();
        askWhatPasses();
        askNotWhatIsTold();
        askTheLastOfAll();
        askAllTold();
        askChangesNothing();
        refusedAsk();
        Due.end();
    }

    private static void knot(String what, AlbumHours x, int set, int many) {
        Due.row("25: " + what, set + " " + many, x.knot(0), x.knot(1));
    }

    /** KNOT: none, if there are ORDERS. */
    private static void knotNone() {
        knot("no pictures", new AlbumHours(), Due.NONE, Due.NONE);
        knot("one picture", Due.of("picture a"), Due.NONE, Due.NONE);
        knot("seven", Due.of(SEVEN), Due.NONE, Due.NONE);
        AlbumHours x = Due.of(SEVEN + ";thing wears");
        for (int p = 0; p < 7; p++) x.see(p, 0, p);
        Due.row("25: one order alone", "1 -1 -1", x.orders(), x.knot(0), x.knot(1));
    }

    /** The fewest PICTURES of which alone there is none: one, whose WINDOW has no SLOTS: the first, the seventh. */
    private static void knotOfOne() {
        AlbumHours y = Due.of("picture a;long 0 4 0");
        knot("the only one", y, 1, 1);
        for (int p = 0; p < 7; p++) {
            AlbumHours x = Due.of(SEVEN);
            x.length(p, 4, 0);
            knot("picture " + p, x, 1 << p, 1);
            x.length(p, 4, 1);
            knot("picture " + p + " with a slot", x, Due.NONE, Due.NONE);
        }
    }

    /** As many as there are SLOTS and one more: two in one, seven in six. */
    private static void knotOfTwoToSeven() {
        for (int many = 2; many <= 7; many++) {
            AlbumHours x = Due.of("picture a;picture b;picture c;picture d;picture e;picture f;picture g");
            for (int p = 7 - many; p < 7; p++) {
                x.point(p, 0, many - 2);
                knot(many + " in as many slots, but one, from " + p, x, p < 6 ? Due.NONE : (1 << 7) - (1 << 7 - many), p < 6 ? Due.NONE : many);
            }
            x.point(6, 0, many - 1);
            knot("one slot more", x, Due.NONE, Due.NONE);
        }
    }

    /** Round about: two, three, six pictures. */
    private static void knotByThings() {
        AlbumHours x = Due.of(SEVEN + ";thing wears;thing comes");
        for (int p = 0; p < 7; p++) x.see(p, 0, p);
        x.see(5, 1, 0);
        x.see(4, 1, 1);
        knot("two that are ahead of one another", x, 48, 2);
        AlbumHours y = Due.of(SEVEN, SIX);
        int[] things = {0, 1, 4, 5};
        for (int i = 0; i < 4; i++) {
            y.see(i, things[i], i % 2);
            y.see(i + 1, things[i], 1 - i % 2);
        }
        knot("a row of five", y, Due.NONE, Due.NONE);
        y.see(4, 3, 1);
        y.see(0, 3, 2);
        knot("the row's end ahead of its beginning", y, 31, 5);
        y.see(2, 3, 3);
        knot("a shorter way round", y, 28, 3);
    }

    /** None in which a THING that PASSES is not there stands between: three that must stand so. */
    private static void knotByPassing() {
        AlbumHours x = Due.of("picture a;picture b;picture c;picture d;thing passes;see 1 0 1;see 2 0 0;see 3 0 1;point 1 3 0;point 2 4 0;point 3 5 0");
        knot("not there between", x, 14, 3);
        x.point(2, 6, 0);
        knot("not there behind", x, Due.NONE, Due.NONE);
        x.point(2, 3, 0);
        knot("two at one slot", x, 6, 2);
    }

    /** The fewest, though their number is greater. */
    private static void knotFewestFirst() {
        AlbumHours x = Due.of(SEVEN + ";point 0 1 0;point 1 1 0");
        knot("two", x, 3, 2);
        x.length(6, 4, 0);
        knot("one alone", x, 64, 1);
        x.length(6, 5, 0);
        knot("two again", x, 3, 2);
    }

    /** Of several sets the least number (bits), not the least picture. */
    private static void knotLeastNumber() {
        AlbumHours x = Due.of(SEVEN + ";point 0 1 0;point 3 1 0;point 1 2 0;point 2 2 0");
        knot("9 or 6", x, 6, 2);
        x.point(1, 3, 0);
        knot("9", x, 9, 2);
        x.point(5, 2, 0);
        x.point(6, 1, 0);
        knot("9, 36, 65, 72", x, 9, 2);
        x.strike(0, 0);
        knot("36, 72", x, 36, 2);
        x.length(5, 4, 0);
        x.length(6, 4, 0);
        knot("32, 64", x, 32, 1);
    }

    /** Of which alone there is none: those left out ask nothing. */
    private static void knotOfWhichAlone() {
        AlbumHours x = Due.of("picture a;picture b;picture c;thing comes;thing goes;see 0 0 0;see 1 0 1;see 1 1 1;see 2 1 0;point 0 2 0;point 2 1 0");
        knot("two by slots, by things over a third one: all three", x, 7, 3);
        x.strike(1, 2);
        knot("the third asks nothing of the first", x, Due.NONE, Due.NONE);
    }

    /** OUTSIDE: what 0, 1. */
    private static void refusedKnot() {
        AlbumHours x = Due.of("picture a;long 0 4 0");
        int[] wrong = {-1, 2, LEAST, GREATEST};
        for (int what : wrong) Due.row("25: what " + what, "-3 -3 -3", x.knot(what), new AlbumHours().knot(what), Due.of("picture a").knot(what));
    }

    /** LOOSE: none, if there are ORDERS; none, if no PIECE alone would do. */
    private static void looseNone() {
        AlbumHours x = new AlbumHours();
        Due.row("26: no pictures", "0 -1", x.loose(-1), x.loose(0));
        AlbumHours y = Due.of("picture a;picture b;point 0 1 0;point 1 2 0");
        Due.row("26: orders", "0 -1 -1", y.loose(-1), y.loose(0), y.loose(1));
        AlbumHours z = Due.of("picture a;picture b;long 0 4 0;long 1 4 0");
        Due.row("26: two that must be", "0 0 -1", z.orders(), z.loose(-1), z.loose(0));
    }

    /** That one alone being struck out, there would be some. */
    private static void looseThatAlone() {
        AlbumHours x = Due.of("picture a;long 0 4 0");
        Due.row("26: the only piece", "1 0 -1", x.loose(-1), x.loose(0), x.loose(1));
        Due.row("26: struck out", "0 1 0 -1", x.strike(0, 1), x.orders(), x.loose(-1), x.loose(0));
        AlbumHours y = Due.of("picture a;point 0 1 0;long 0 5 0");
        Due.row("26: either of two", "2 0 1 -1", y.loose(-1), y.loose(0), y.loose(1), y.loose(2));
        y.length(0, 4, 0);
        Due.row("26: one of two", "1 1 -1", y.loose(-1), y.loose(0), y.loose(1));
    }

    /** By their numbers, as these are now. */
    private static void looseByNumbers() {
        AlbumHours x = Due.of("picture a;picture b;picture c;point 2 9 0;point 1 3 0;long 2 14 0;point 0 3 0");
        Due.row("26: the second, the fourth", "2 1 3 -1", x.loose(-1), x.loose(0), x.loose(1), x.loose(2));
        x.strike(2, 0);
        Due.row("26: a number less", "2 0 2 -1", x.loose(-1), x.loose(0), x.loose(1), x.loose(2));
        x.undo();
        Due.row("26: undone", "2 1 3 -1", x.loose(-1), x.loose(0), x.loose(1), x.loose(2));
        x.point(1, 3, 0);
        Due.row("26: told otherwise it stays where it is", "2 1 3 -1", x.loose(-1), x.loose(0), x.loose(1), x.loose(2));
    }

    private static void looseOfAll() {
        AlbumHours x = Due.of(SEVEN);
        for (int p = 0; p < 7; p++) x.point(p, 0, 5);
        Due.row("26: seven in six slots", "7 0 6 -1", x.loose(-1), x.loose(0), x.loose(6), x.loose(7));
        for (int p = 0; p < 7; p++) x.point(p, 0, 4);
        Due.row("26: seven in five", "0 -1", x.loose(-1), x.loose(0));
    }

    /** Of all 56: the last one, the first one. */
    private static void looseOfAllPieces() {
        AlbumHours x = Due.of(SEVEN, SIX);
        for (int p = 0; p < 7; p++) {
            for (int t = 0; t < 6; t++) x.see(p, t, 1);
            x.point(p, 12, 9);
            x.length(p, p == 6 ? 999 : 50, 99);
        }
        Due.row("26: the last", "56 0 1 55 -1", x.count(2), x.orders(), x.loose(-1), x.loose(0), x.loose(1));
        x.length(6, 50, 99);
        Due.row("26: none", "5040 0 -1", x.orders(), x.loose(-1), x.loose(0));
        x.see(0, 0, 0);
        x.see(0, 1, 0);
        Due.row("26: it comes, it goes", "0 2 0 1 -1", x.orders(), x.loose(-1), x.loose(0), x.loose(1), x.loose(2));
    }

    /** OUTSIDE: k below -1. */
    private static void refusedLoose() {
        AlbumHours x = Due.of("picture a;long 0 4 0");
        Due.row("26: k", "-3 -3 -3 1 0 -1 -1", x.loose(LEAST), x.loose(-3), x.loose(-2), x.loose(-1), x.loose(0), x.loose(1), x.loose(GREATEST));
        AlbumHours y = new AlbumHours();
        Due.row("26: k, nothing told", "-3 -3 0 -1 -1", y.loose(LEAST), y.loose(-2), y.loose(-1), y.loose(0), y.loose(GREATEST));
    }

    /** WOULD of a PICTURE, a MATTER, a value: the least and the greatest value of each MATTER. */
    private static void wouldOfOne() {
        AlbumHours x = Due.of("picture a;picture b;thing comes;thing goes;thing passes;thing wears");
        Due.row("27: points", "2 2", x.would(0, 0, 0), x.would(1, 0, 24));
        Due.row("27: lengths", "0 0 2 2 0", x.would(0, 1, 0), x.would(0, 1, 4), x.would(0, 1, 5), x.would(1, 1, 149), x.would(1, 1, 999));
        for (int t = 0; t < 4; t++) Due.row("27: things", "2 2", x.would(0, 2 + t, 0), x.would(1, 2 + t, t == 3 ? 9 : 1));
        x.see(0, 3, 5);
        Due.row("27: it wears", "1 1 2 1 1", x.would(1, 5, 0), x.would(1, 5, 4), x.would(1, 5, 5), x.would(1, 5, 6), x.would(1, 5, 9));
    }

    /** Were there that PIECE (in place of what there is). */
    private static void wouldInPlace() {
        AlbumHours x = Due.of("picture a;picture b;thing comes;see 0 0 0;see 1 0 1");
        Due.row("27: as it is, otherwise", "1 1 2 1 2", x.orders(), x.would(0, 2, 0), x.would(0, 2, 1), x.would(1, 2, 1), x.would(1, 2, 0));
        AlbumHours y = Due.of("picture a;long 0 14 0");
        Due.row("27: the length there is holds for the point", "1 0 1 0", y.would(0, 0, 9), y.would(0, 0, 12), y.would(0, 0, 15), y.would(0, 0, 24));
        Due.row("27: another length does not", "1 0", y.would(0, 1, 5), y.would(0, 1, 4));
    }

    /** (SLACK 0): as there were none, though that PIECE has one. */
    private static void wouldWithoutSlack() {
        AlbumHours x = Due.of("picture a;long 0 4 1");
        Due.row("27: the same value", "1 0 1", x.orders(), x.would(0, 1, 4), x.orders());
        AlbumHours y = Due.of("picture a;picture b;point 0 3 1;point 1 3 1");
        Due.row("27: of two", "2 2 1 1", y.orders(), y.would(0, 0, 3), y.would(0, 0, 2), y.would(0, 0, 4));
        y.point(1, 3, 0);
        Due.row("27: at the other's slot", "2 0", y.orders(), y.would(0, 0, 3));
    }

    /** How many ORDERS there would be, where there are none. */
    private static void wouldWhereNoneAre() {
        AlbumHours x = Due.of("picture a;picture b;long 0 4 0");
        Due.row("27: none, some", "0 0 2 0 0", x.orders(), x.would(0, 1, 4), x.would(0, 1, 5), x.would(1, 1, 5), x.would(0, 0, 12));
        AlbumHours y = Due.of("picture a");
        Due.row("27: of one picture", "1 0", y.would(0, 0, 12), y.would(0, 1, 4));
    }

    private static void wouldOfAllPieces() {
        AlbumHours x = Due.of(SEVEN, SIX);
        for (int p = 0; p < 7; p++) {
            for (int t = 0; t < 6; t++) x.see(p, t, 1);
            x.point(p, 12, 9);
            x.length(p, 50, 99);
        }
        Due.row("27: of all", "5040 5040 720 720 1440 720 720", x.orders(), x.would(6, 3, 1), x.would(6, 3, 0), x.would(6, 2, 0), x.would(6, 4, 0),
                x.would(6, 5, 9), x.would(6, 7, 0));
        Due.row("27: as much as was told", "56 8", x.count(2), x.count(8));
    }

    private static void wouldChangesNothing() {
        AlbumHours x = Due.of("picture a;picture b;thing comes;see 0 0 0;point 0 3 9");
        Due.row("27: would", "2 2 1", x.would(0, 2, 1), x.would(0, 0, 5), x.would(1, 2, 1));
        Due.row("27: what there is", "2 0 3 9 -1 0 2", x.count(2), x.piece(0, 2, 0), x.piece(0, 0, 0), x.piece(0, 0, 1), x.piece(1, 2, 0), x.count(8), x.orders());
    }

    /** UNKNOWN; OUTSIDE: the MATTER, the value. */
    private static void refusedWould() {
        AlbumHours x = Due.of("picture a;picture b;thing comes;thing goes;thing passes;thing wears");
        int[] pictures = {-1, 2, LEAST, GREATEST};
        for (int p : pictures) Due.row("27: picture " + p, "-2 -2 -2", x.would(p, 0, 0), x.would(p, -1, 0), x.would(p, 0, 25));
        int[] matters = {-1, 6, 8, LEAST, GREATEST};
        for (int matter : matters) Due.row("27: matter " + matter, "-3 -3 -3", x.would(0, matter, 0), x.would(1, matter, 1), x.would(0, matter, -1));
        int[] most = {24, 999, 1, 1, 1, 9};
        for (int matter = 0; matter < 6; matter++) {
            Due.row("27: values of matter " + matter, "-3 -3 -3 -3", x.would(0, matter, -1), x.would(0, matter, most[matter] + 1),
                    x.would(0, matter, LEAST), x.would(0, matter, GREATEST));
            Due.is("27: the greatest of matter " + matter, x.would(0, matter, most[matter]), matter == 1 ? 0 : 2);
        }
        Due.row("27: no things, no pictures", "-3 1 -2", Due.of("picture a").would(0, 2, 0), Due.of("picture a").would(0, 0, 0), new AlbumHours().would(0, 0, 0));
    }

    private static void ask(String what, AlbumHours x, int asked, int worth) {
        Due.row("28: " + what, asked + " " + worth, x.ask(0), x.ask(1));
    }

    /** None: no PICTURES, no THINGS, nothing told; no ORDERS. */
    private static void askNone() {
        ask("nothing told", new AlbumHours(), -1, -1);
        ask("no things", Due.of(SEVEN), -1, -1);
        ask("no pictures", Due.of(SIX), -1, -1);
        ask("no pieces", Due.of(SEVEN, SIX), -1, -1);
        AlbumHours x = Due.of("picture a;picture b;picture c;thing comes;see 0 0 0;see 1 0 1");
        ask("one that helps", x, 22, 2);
        x.length(0, 4, 0);
        ask("no orders", x, -1, -1);
        x.strike(0, 1);
        ask("orders again", x, 22, 2);
    }

    /** If that is less than how many ORDERS there are: one less, as many. */
    private static void askLessThanThereAre() {
        AlbumHours x = Due.of("picture a;picture b;picture c;thing comes;see 0 0 0;see 1 0 1;point 0 3 0;point 1 4 0;point 2 5 0");
        Due.row("28: one order", "1 -1 -1", x.orders(), x.ask(0), x.ask(1));
        x.point(2, 4, 2);
        Due.row("28: two; by 0 one, by 1 one", "2 1 1 22 1", x.orders(), x.would(2, 2, 0), x.would(2, 2, 1), x.ask(0), x.ask(1));
        x.point(1, 4, 1);
        x.point(2, 4, 1);
        x.point(0, 4, 1);
        Due.row("28: three; by 0 two, by 1 two", "3 2 2 22 2", x.orders(), x.would(2, 2, 0), x.would(2, 2, 1), x.ask(0), x.ask(1));
        AlbumHours y = Due.of("picture a;picture b;picture c;thing passes;see 0 0 1;see 1 0 1");
        Due.row("28: not less by 1", "6 4 6 -1 -1", y.orders(), y.would(2, 2, 0), y.would(2, 2, 1), y.ask(0), y.ask(1));
    }

    /** Of the numbers of ORDERS by the value 0, by 1, the greater one is its WORTH. */
    private static void askTheGreaterOfTwo() {
        AlbumHours x = Due.of("picture a;picture b;picture c;picture d;thing comes;see 0 0 0;see 1 0 0;see 2 0 1");
        Due.row("28: by 0 the greater", "8 6 4 32 6", x.orders(), x.would(3, 2, 0), x.would(3, 2, 1), x.ask(0), x.ask(1));
        x.see(1, 0, 1);
        Due.row("28: by 1 the greater", "8 4 6 32 6", x.orders(), x.would(3, 2, 0), x.would(3, 2, 1), x.ask(0), x.ask(1));
    }

    /** Of like ones the least PICTURE, then the least MATTER. */
    private static void askOfLikeOnes() {
        AlbumHours x = Due.of(SEVEN + ";thing goes;thing comes;thing comes");
        x.see(5, 1, 0);
        x.see(6, 1, 1);
        int worth = x.ask(1);
        for (int p = 0; p < 5; p++) Due.row("28: all alike", "" + worth, Math.max(x.would(p, 3, 0), x.would(p, 3, 1)));
        ask("the least picture", x, 3, worth);
        x.see(5, 2, 0);
        x.see(6, 2, 1);
        ask("the least matter", x, 3, worth);
        x.see(5, 0, 1);
        x.see(6, 0, 0);
        ask("a lesser matter still", x, 2, worth);
        AlbumHours y = Due.of(SEVEN + ";thing goes;thing comes");
        y.see(5, 1, 0);
        y.see(6, 1, 1);
        y.see(0, 1, 0);
        Due.row("28: one of less worth, though a greater picture", "1", y.ask(0) / 10);
    }

    /** Of like ones the least, the value 1 making the WORTH: picture 3 of 3 and 4, matter 2 of 2 and 3. */
    private static void askOfLikeOnesByOne() {
        AlbumHours x = Due.of("picture a;picture b;picture c;picture d;picture e;thing comes;thing comes;see 0 0 0;see 1 0 1;see 2 0 1");
        Due.row("28: by 0, by 1", "40 20 30 20 30", x.orders(), x.would(3, 2, 0), x.would(3, 2, 1), x.would(4, 2, 0), x.would(4, 2, 1));
        ask("the least picture", x, 32, 30);
        Due.tell(x, "see 0 1 0;see 1 1 1;see 2 1 1");
        Due.row("28: by 0, by 1", "40 20 30 20 30", x.orders(), x.would(3, 3, 0), x.would(3, 3, 1), x.would(4, 3, 0), x.would(4, 3, 1));
        ask("the least matter", x, 32, 30);
    }

    /** The least PICTURE, then the least MATTER: picture 1 with matter 3, not picture 2 with matter 2. */
    private static void askPictureAheadOfMatter() {
        AlbumHours x = Due.of("picture a;picture b;picture c;picture d;picture e;thing comes;thing comes",
                "see 0 0 0;see 3 0 0;see 1 0 1;see 0 1 0;see 4 1 0;see 2 1 1");
        Due.row("28: pictures 1, 2", "16 8 14 8 14", x.orders(), x.would(1, 3, 0), x.would(1, 3, 1), x.would(2, 2, 0), x.would(2, 2, 1));
        Due.row("28: pictures 3, 4", "14 6 14 6", x.would(3, 3, 0), x.would(3, 3, 1), x.would(4, 2, 0), x.would(4, 2, 1));
        ask("of four alike", x, 13, 14);
    }

    /** With THINGS that do not WEAR: what PASSES, too. */
    private static void askWhatPasses() {
        AlbumHours x = Due.of("picture a;picture b;picture c;picture d;thing wears;thing passes;see 0 1 1;see 1 1 1;see 2 1 0");
        Due.row("28: it passes", "16 12 12", x.orders(), x.would(3, 3, 0), x.would(3, 3, 1));
        ask("it passes", x, 33, 12);
        x.see(3, 1, 1);
        ask("all told", x, -1, -1);
    }

    /** With THINGS that do not WEAR. */
    private static void askNotWhatWears() {
        AlbumHours x = Due.of("picture a;picture b;picture c;thing wears;see 0 0 0;see 1 0 1");
        Due.row("28: it wears", "3 2 2 -1 -1", x.orders(), x.would(2, 2, 0), x.would(2, 2, 1), x.ask(0), x.ask(1));
        Due.tell(x, "thing goes;see 0 1 1;see 1 1 0");
        ask("it goes", x, 23, 2);
    }

    /** Of which there is no PIECE. */
    private static void askNotWhatIsTold() {
        AlbumHours x = Due.of("picture a;picture b;picture c;thing comes;see 0 0 0;see 1 0 1;see 2 0 0");
        ask("all told", x, -1, -1);
        x.strike(2, 2);
        ask("one struck out", x, 22, 2);
        x.see(2, 0, 1);
        ask("told by 1", x, -1, -1);
        x.undo();
        ask("undone", x, 22, 2);
    }

    /** 10 times the PICTURE and the MATTER: up to the seventh PICTURE and the sixth THING. */
    private static void askTheLastOfAll() {
        AlbumHours x = Due.of(SEVEN, SIX);
        x.see(0, 5, 1);
        for (int p = 1; p < 6; p++) x.see(p, 5, 0);
        Due.row("28: the last", "840 720 240 67 720", x.orders(), x.would(6, 7, 0), x.would(6, 7, 1), x.ask(0), x.ask(1));
        AlbumHours y = Due.of(SEVEN, SIX);
        for (int p = 1; p < 7; p++) y.see(p, 0, p / 4);
        Due.row("28: the first", "2", y.ask(0));
    }

    private static void askAllTold() {
        AlbumHours x = Due.of(SEVEN, SIX);
        for (int p = 0; p < 7; p++) for (int t = 0; t < 6; t++) x.see(p, t, p == 3 && t == 0 ? 0 : 1);
        Due.row("28: all told", "720 -1 -1", x.orders(), x.ask(0), x.ask(1));
        x.strike(6, 2);
        Due.row("28: all but one", "840 720 240 62 720", x.orders(), x.would(6, 2, 1), x.would(6, 2, 0), x.ask(0), x.ask(1));
    }

    private static void askChangesNothing() {
        AlbumHours x = Due.of("picture a;picture b;picture c;thing comes;see 0 0 0;see 1 0 1");
        ask("asked", x, 22, 2);
        Due.row("28: nothing is told by that", "2 0 -1 3", x.count(2), x.count(8), x.piece(2, 2, 0), x.orders());
    }

    /** OUTSIDE: what 0, 1. */
    private static void refusedAsk() {
        int[] wrong = {-1, 2, LEAST, GREATEST};
        AlbumHours x = Due.of("picture a;picture b;picture c;thing comes;see 0 0 0;see 1 0 1");
        for (int what : wrong) Due.row("28: what " + what, "-3 -3", x.ask(what), new AlbumHours().ask(what));
    }
}
