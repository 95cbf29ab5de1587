import java.lang.management.ManagementFactory;

/** All calls of a run live in one room: an object takes its room when it is made, and no call takes more. */
public final class RoomTest {
    /** Together with those by which the album is told they stay below the 512 that an object answers. */
    private static final int CALLS = 320;
    /** Far below what 7.3 million elements take, and below what one object a call would take. */
    private static final long MOST_BYTES_AN_OBJECT = 200_000;
    private static final long MOST_BYTES_OF_CALLS = 3_000;

    public static void main(String[] args) {
        long atFirst = taken();
        AlbumHours x = new AlbumHours();
        long made = taken() - atFirst;
        Due.is("bytes of an object, " + made + ", are few", made < MOST_BYTES_AN_OBJECT ? 1 : 0, 1);
        tell(x);
        dearCalls(x);
        AlbumHours y = new AlbumHours();
        tell(y);
        long ahead = taken();
        dearCalls(y);
        long more = taken() - ahead;
        Due.is("bytes of " + CALLS + " calls, " + more + ", are few", more < MOST_BYTES_OF_CALLS ? 1 : 0, 1);
        Due.end();
    }

    private static void tell(AlbumHours x) {
        Due.tell(x, "picture a;picture b;picture c;picture d;picture e;picture f;picture g;thing comes;thing goes");
        Due.tell(x, "thing passes;thing passes;thing goes;thing wears");
        for (int t = 0; t < 5; t++) {
            x.see(t, t, 1);
            x.see(t + 1, t, 0);
        }
    }

    private static void dearCalls(AlbumHours x) {
        for (int i = 0; i < CALLS / 8; i++) {
            x.length(i % 7, 40 + i % 90, 60);
            x.ask(i % 2);
            x.knot(0);
            x.loose(0);
            x.left(i % 7, 0);
            x.order(i * 50, i % 7);
            x.would(i % 7, 2, 1);
            x.fault();
        }
    }

    private static long taken() {
        return ((com.sun.management.ThreadMXBean) ManagementFactory.getThreadMXBean()).getCurrentThreadAllocatedBytes();
    }
}
