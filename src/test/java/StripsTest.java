/** Promises 29 to 37: strips, the latest, and what is counted. */
public final class StripsTest {
    public static void main(String[] args) {
        strip();
        set();
        load();
        work();
        workRefused();
        bits();
        sum();
        drop();
        latest();
        count();
        constants();
        Due.end();
    }

    private static void strip() {
        AlbumHours x = new AlbumHours();
        Due.is("29: strip(0, 0)", x.strip(0, 0), 0);
        Due.is("29: strip(2, 8)", x.strip(2, 8), 8);
        Due.is("29: strip(3, 9)", x.strip(3, 9), Due.UNKNOWN);
        Due.is("29: strip(-1, -1)", x.strip(-1, -1), Due.UNKNOWN);
        Due.is("29: strip(2, 9)", x.strip(2, 9), Due.OUTSIDE);
        Due.is("29: strip(2, -1)", x.strip(2, -1), Due.SIZE);
        Due.is("29: strip(2, least)", x.strip(2, Integer.MIN_VALUE), Due.SIZE);
        Due.is("29: nothing changed", x.count(7), 8);
        Due.is("29: a strip of none is not missing", x.sum(0), 0);
        Due.is("29: it has no place", x.bits(0, 0), Due.INDEX);
        x.set(2, 7, 5);
        x.set(2, 0, 5);
        Due.is("29: a new one", x.strip(2, 8), 8);
        Due.is("29: of noughts", x.bits(2, 0) + x.bits(2, 7), 0);
        x.set(2, 1, 5);
        x.strip(2, 1);
        Due.is("29: of fewer places", x.bits(2, 1), Due.INDEX);
        x.strip(2, 2);
        Due.is("29: and of more again, noughts", x.bits(2, 1), 0);
    }

    private static void set() {
        AlbumHours x = new AlbumHours();
        Due.is("30: missing", x.set(0, -1, 1), Due.NULL);
        x.strip(0, 2);
        Due.is("30: set(0, 1, 7)", x.set(0, 1, 7), 1);
        Due.is("30: the place", x.bits(0, 1), 3);
        Due.is("30: not the other one", x.bits(0, 0), 0);
        Due.is("30: with its sign", x.set(0, 1, -1) * 100 + x.bits(0, 1), 164);
        Due.is("30: set(0, 2, 7)", x.set(0, 2, 7), Due.INDEX);
        Due.is("30: set(0, -1, 7)", x.set(0, -1, 7), Due.INDEX);
        Due.is("30: set(3, 0, 7)", x.set(3, 0, 7), Due.UNKNOWN);
        Due.is("30: set(-1, 0, 7)", x.set(-1, 0, 7), Due.UNKNOWN);
        Due.is("30: not the latest", x.latest(), 0);
    }

    private static void load() {
        AlbumHours x = Due.of("picture a;picture b;thing comes;see 0 0 0;see 1 0 1;point 0 10 3;point 1 8 2");
        Due.is("31: missing", x.load(1, 9, 0, 0), Due.NULL);
        x.strip(1, 4);
        Due.is("31: window", x.load(1, 0, 0, 0), 7);
        Due.is("31: left", x.load(1, 1, 0, 1), 3);
        Due.is("31: window of the other", x.load(1, 2, 1, 0), 5);
        Due.is("31: left of the other", x.load(1, 3, 1, 1), 3);
        long[] due = {127L << 19, 7L << 19, 31L << 18, 7L << 20};
        Due.is("31: not the latest", x.latest(), 0);
        for (int i = 0; i < 4; i++) {
            x.work(1, i, 2, 0);
            Due.is("31: the bits of place " + i, x.latest(), due[i]);
        }
        Due.is("31: no strip", x.load(3, 0, 0, 0), Due.UNKNOWN);
        Due.is("31: no picture", x.load(1, 0, 2, 5), Due.UNKNOWN);
        Due.is("31: no picture, a missing strip", x.load(0, 0, -1, 0), Due.UNKNOWN);
        Due.is("31: what 2", x.load(0, 0, 0, 2), Due.OUTSIDE);
        Due.is("31: what -1", x.load(1, 9, 0, -1), Due.OUTSIDE);
        Due.is("31: place 4", x.load(1, 4, 0, 0), Due.INDEX);
        Due.is("31: place -1", x.load(1, -1, 0, 0), Due.INDEX);
        x.point(1, 0, 0);
        Due.is("31: none left", x.load(1, 0, 1, 1), 0);
        Due.is("31: the place has none", x.bits(1, 0), 0);
        x.strike(1, 0);
        Due.is("31: all slots", x.load(1, 0, 1, 0), 48);
    }

    private static void work() {
        AlbumHours x = new AlbumHours();
        x.strip(0, 3);
        x.set(0, 0, 12);
        x.set(0, 1, 10);
        x.set(0, 2, -7);
        Due.is("32: both", x.work(0, 0, 0, 1), 1);
        Due.is("32: both, the latest", x.latest(), 8);
        Due.is("32: either", x.work(0, 1, 1, 0), 1);
        Due.is("32: either, the latest", x.latest(), 10);
        x.work(0, 1, 1, 2);
        Due.is("32: either, with a sign", x.latest(), -5);
        Due.is("32: higher", x.work(0, 0, 2, 3), 1);
        Due.is("32: higher, the latest", x.latest(), 64);
        Due.is("32: the place holds it", x.bits(0, 0), 1);
        x.work(0, 0, 2, 57);
        Due.is("32: to the sign", x.latest(), Long.MIN_VALUE);
        Due.is("32: lower", x.work(0, 0, 3, 63), 1);
        Due.is("32: with its sign", x.latest(), -1);
        x.work(0, 2, 3, 1);
        Due.is("32: lower, the latest", x.latest(), -4);
        x.work(0, 2, 2, 66);
        Due.is("32: the lowest six bits of 66", x.latest(), -16);
        x.work(0, 2, 3, 99);
        Due.is("32: the lowest six bits of 99", x.latest(), -1);
        x.work(0, 2, 2, 64);
        Due.is("32: of 64 none", x.latest(), -1);
        x.work(0, 2, 0, 2);
        Due.is("32: with itself", x.latest(), -1);
    }

    private static void workRefused() {
        AlbumHours x = new AlbumHours();
        Due.is("32: no strip", x.work(3, 0, 9, 0), Due.UNKNOWN);
        Due.is("32: strip -1", x.work(-1, 0, 0, 0), Due.UNKNOWN);
        Due.is("32: way 4, missing", x.work(0, 0, 4, 0), Due.OUTSIDE);
        Due.is("32: way -1", x.work(0, 0, -1, 0), Due.OUTSIDE);
        Due.is("32: missing", x.work(0, 9, 0, 9), Due.NULL);
        Due.is("32: j 100, missing", x.work(0, 0, 2, 100), Due.OUTSIDE);
        x.strip(0, 2);
        x.set(0, 1, 1);
        Due.is("32: way 2, j 100", x.work(0, 9, 2, 100), Due.OUTSIDE);
        Due.is("32: way 3, j -1", x.work(0, 0, 3, -1), Due.OUTSIDE);
        Due.is("32: way 0, place 2", x.work(0, 2, 0, 0), Due.INDEX);
        Due.is("32: way 1, place 2 of the other", x.work(0, 0, 1, 2), Due.INDEX);
        Due.is("32: way 0, place -1 of the other", x.work(0, 0, 0, -1), Due.INDEX);
        Due.is("32: way 1, place 100 of the other", x.work(0, 0, 1, 100), Due.INDEX);
        Due.is("32: way 2, place -1", x.work(0, -1, 2, 0), Due.INDEX);
        Due.is("32: way 3, place 2", x.work(0, 2, 3, 0), Due.INDEX);
        Due.is("32: nothing changed", x.latest() * 10 + x.bits(0, 1), 1);
    }

    private static void bits() {
        AlbumHours x = new AlbumHours();
        Due.is("33: missing", x.bits(2, 5), Due.NULL);
        x.strip(2, 1);
        x.set(2, 0, Integer.MIN_VALUE);
        Due.is("33: of all 64", x.bits(2, 0), 33);
        Due.is("33: bits(2, 1)", x.bits(2, 1), Due.INDEX);
        Due.is("33: bits(2, -1)", x.bits(2, -1), Due.INDEX);
        Due.is("33: bits(3, 0)", x.bits(3, 0), Due.UNKNOWN);
        Due.is("33: bits(-1, 0)", x.bits(-1, 0), Due.UNKNOWN);
    }

    private static void sum() {
        AlbumHours x = new AlbumHours();
        Due.is("34: missing", x.sum(0), Due.NULL);
        Due.is("34: sum(3)", x.sum(3), Due.UNKNOWN);
        Due.is("34: sum(-1)", x.sum(-1), Due.UNKNOWN);
        x.strip(0, 3);
        x.set(0, 0, 1);
        x.set(0, 1, 1);
        x.set(0, 2, -5);
        Due.is("34: sum(0)", x.sum(0), 3);
        Due.is("34: the latest", x.latest(), -3);
        x.work(0, 0, 2, 63);
        x.work(0, 1, 2, 63);
        x.sum(0);
        Due.is("34: as the machine adds", x.latest(), -5);
        x.strip(0, 0);
        Due.is("34: of no places", x.sum(0), 0);
        Due.is("34: the latest", x.latest(), 0);
    }

    private static void drop() {
        AlbumHours x = new AlbumHours();
        x.strip(0, 2);
        x.strip(1, 0);
        Due.is("35: drop(0)", x.drop(0), 2);
        Due.is("35: drop(1)", x.drop(1), 0);
        Due.is("35: drop(0) again", x.drop(0), Due.NULL);
        Due.is("35: drop(2)", x.drop(2), Due.NULL);
        Due.is("35: drop(3)", x.drop(3), Due.UNKNOWN);
        Due.is("35: drop(-1)", x.drop(-1), Due.UNKNOWN);
        Due.is("35: missing from now on", x.bits(0, 0), Due.NULL);
    }

    private static void latest() {
        AlbumHours x = new AlbumHours();
        Due.is("36: at first", x.latest(), 0);
        x.strip(0, 2);
        x.set(0, 0, 5);
        x.work(0, 0, 2, 40);
        Due.is("36: a long", x.latest(), 5L << 40);
        x.drop(0);
        x.sum(0);
        Due.is("36: it stays", x.latest(), 5L << 40);
        Due.tell(x, "album");
        Due.is("36: behind a text, too", x.latest(), 5L << 40);
    }

    private static void count() {
        AlbumHours x = Due.of("sun 20 7 33;picture a;picture b;picture c;thing wears;thing comes;thing goes");
        x.see(0, 0, 1);
        x.see(1, 0, 2);
        x.see(2, 0, 3);
        x.point(0, 1, 1);
        x.strike(0, 0);
        x.strip(0, 5);
        x.strip(2, 3);
        Due.write(x, "four");
        int[] due = {3, 3, 3, 3, 20, 7, 33, 8, 5, 4};
        for (int what = 0; what < 10; what++) Due.is("37: count(" + what + ")", x.count(what), due[what]);
        Due.is("37: count(10)", x.count(10), Due.OUTSIDE);
        Due.is("37: count(-1)", x.count(-1), Due.OUTSIDE);
        x.see(2, 1, 0);
        x.see(0, 1, 1);
        Due.is("37: round about, each pair both ways, nobody with itself", x.count(3), 6);
        x.drop(0);
        Due.is("37: places of all strips", x.count(7), 3);
    }

    private static void constants() {
        int[] values = {AlbumHours.NONE, AlbumHours.UNKNOWN, AlbumHours.OUTSIDE, AlbumHours.NOT, AlbumHours.FULL,
            AlbumHours.NULL, AlbumHours.INDEX, AlbumHours.SIZE};
        int[] due = {-1, -2, -3, -4, -5, -11, -12, -13};
        for (int i = 0; i < due.length; i++) Due.is("constant " + i, values[i], due[i]);
    }
}
