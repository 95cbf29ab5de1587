import java.util.ArrayList;
import java.util.List;

/**
 * "Refused, and nothing changes: UNKNOWN, OUTSIDE, NOT, then what the machine finds: the first of these that fits":
 * every call with every row of arguments at, below and above their bounds, of several states. What is refused is
 * answered by the first in that order; what is not, by none of them; and behind what was refused all that an object
 * shows is as without it.
 */
public final class RefusalsTest {
    private static final int LEAST = Integer.MIN_VALUE, GREATEST = Integer.MAX_VALUE;
    private static final String SEVEN = "picture a;picture b;picture c;picture d;picture e;picture f;picture g";
    private static final String SIX = "thing comes;thing goes;thing passes;thing wears;thing comes;thing goes";
    /** So many refused calls stand in one story: with it and the looks they stay below 512 calls. */
    private static final int CALLS_A_STORY = 40;

    /** A state and what of it the refusals hang on. */
    private record State(String name, Shown.Story story, int pictures, String kinds, int[] places, boolean[] kept, boolean undone,
            boolean orders, boolean fault, boolean full, List<Integer> pieces) { }

    private interface Call {
        int of(AlbumHours x, int... a);
    }

    private interface Rule {
        int refusal(int... a);
    }

    private final State s;
    private final String shown;
    private int refused;

    private RefusalsTest(State state) {
        s = state;
        shown = Shown.behind(state.story());
    }

    public static void main(String[] args) {
        State[] states = {nothingTold(), some(), noOrders(), allPieces(), allLetters()};
        for (State state : states) new RefusalsTest(state).all();
        Due.end();
    }

    // ---- the states

    private static State nothingTold() {
        return new State("nothing told", x -> { }, 0, "", new int[] {-1, -1, -1}, new boolean[] {false, false}, false, true, true, false, List.of());
    }

    private static State some() {
        return new State("some told", RefusalsTest::tellSome, 3, "cgpw", new int[] {2, 0, -1}, new boolean[] {true, false}, true, true, false, false,
                List.of(2, 10, 21));
    }

    private static void tellSome(AlbumHours x) {
        Due.tell(x, "sun 20 3 7;picture a;picture bb;picture ccccc;thing comes;thing goes;thing passes;thing wears;see 0 0 0");
        x.see(1, 0, 1);
        x.keep(0);
        x.see(2, 3, 4);
        x.strip(0, 2);
        x.strip(1, 0);
        x.set(0, 0, -5);
        x.set(0, 1, 6);
        x.sum(0);
        Due.write(x, "point 2 7");
        x.write(' ');
        x.write('2');
    }

    private static State noOrders() {
        return new State("no orders", RefusalsTest::tellNoOrders, 2, "w", new int[] {-1, 1, 8}, new boolean[] {false, true}, false, false, true, false,
                List.of(0, 8, 9));
    }

    private static void tellNoOrders(AlbumHours x) {
        Due.tell(x, "picture a;picture b;thing wears;point 0 1 0;point 1 1 0;long 1 4 0");
        x.strip(1, 1);
        x.strip(2, 8);
        x.load(2, 7, 0, 0);
        x.keep(1);
        Due.write(x, "album;");
    }

    private static State allPieces() {
        List<Integer> pieces = new ArrayList<>();
        for (int key = 0; key < 56; key++) pieces.add(key);
        return new State("all pieces", RefusalsTest::tellAllPieces, 7, "cgpwcg", new int[] {8, 8, 8}, new boolean[] {true, true}, true, true, false, false,
                pieces);
    }

    private static void tellAllPieces(AlbumHours x) {
        Due.tell(x, SEVEN);
        Due.tell(x, SIX);
        for (int p = 0; p < 7; p++) {
            x.length(p, 50, 99);
            x.point(p, 12, 9);
            for (int t = 0; t < 6; t++) x.see(p, t, 1);
        }
        x.keep(0);
        x.keep(1);
        for (int i = 0; i < 3; i++) x.strip(i, 8);
        Due.write(x, "album");
    }

    private static State allLetters() {
        return new State("all letters", RefusalsTest::tellAllLetters, 1, "", new int[] {-1, -1, 3}, new boolean[] {false, false}, true, true, false, true,
                List.of(1));
    }

    private static void tellAllLetters(AlbumHours x) {
        Due.tell(x, "picture a");
        x.length(0, 9, 9);
        x.strip(2, 3);
        Due.write(x, " ".repeat(190) + "picture bb");
    }

    // ---- every row of arguments

    private static int[] around(int least, int most) {
        return new int[] {LEAST, least - 1, least, most, most + 1, GREATEST};
    }

    private int[] somePictures() {
        return around(0, s.pictures - 1);
    }

    private int[] someMatters() {
        return around(0, 1 + s.kinds.length());
    }

    private int[] someStrips() {
        return new int[] {LEAST, -1, 0, 1, 2, 3, GREATEST};
    }

    private int[] somePlaces() {
        return new int[] {LEAST, -1, 0, 1, 2, 3, 7, 8, GREATEST};
    }

    /** Runs a call with every row that can be made of these numbers. */
    private void grid(String name, Rule rule, Call call, int[]... numbers) {
        List<int[]> rows = new ArrayList<>();
        rows.add(new int[0]);
        for (int[] choices : numbers) {
            List<int[]> longer = new ArrayList<>();
            for (int[] row : rows) for (int choice : choices) {
                int[] more = java.util.Arrays.copyOf(row, row.length + 1);
                more[row.length] = choice;
                longer.add(more);
            }
            rows = longer;
        }
        List<int[]> refusedRows = new ArrayList<>();
        for (int[] row : rows) {
            int due = rule.refusal(row);
            AlbumHours x = new AlbumHours();
            s.story().tell(x);
            int answered = call.of(x, row);
            String what = s.name() + ": " + name + java.util.Arrays.toString(row);
            if (due == 0) Due.is(what + " answered " + answered + ", which is no refusal", answered > Due.UNKNOWN ? 1 : 0, 1);
            else Due.is(what, answered, due);
            if (due != 0) refusedRows.add(row);
        }
        changesNothing(name, call, refusedRows);
    }

    private void changesNothing(String name, Call call, List<int[]> rows) {
        refused += rows.size();
        for (int from = 0; from < rows.size(); from += CALLS_A_STORY) {
            List<int[]> some = rows.subList(from, Math.min(rows.size(), from + CALLS_A_STORY));
            String then = Shown.behind(x -> {
                s.story().tell(x);
                for (int[] row : some) call.of(x, row);
            });
            Due.is(s.name() + ": what " + name + " refused changed nothing", then.equals(shown) ? 1 : 0, 1);
        }
    }

    // ---- what of a row is refused

    private static int first(boolean unknown, boolean outside, boolean not) {
        return unknown ? Due.UNKNOWN : outside ? Due.OUTSIDE : not ? Due.NOT : 0;
    }

    private static boolean out(int number, int least, int most) {
        return number < least || number > most;
    }

    private boolean noPicture(int picture) {
        return out(picture, 0, s.pictures - 1);
    }

    private boolean noThing(int thing) {
        return out(thing, 0, s.kinds.length() - 1);
    }

    private boolean noMatter(int matter) {
        return out(matter, 0, 1 + s.kinds.length());
    }

    private boolean noValue(int matter, int value) {
        return noMatter(matter) || out(value, 0, matter == 0 ? 24 : matter == 1 ? 999 : s.kinds.charAt(matter - 2) == 'w' ? 9 : 1);
    }

    private int strips(int strip, boolean unknown, boolean outside, int... places) {
        int refusal = first(unknown || out(strip, 0, 2), outside, false);
        if (refusal != 0) return refusal;
        if (s.places()[strip] < 0) return Due.NULL;
        for (int place : places) if (out(place, 0, s.places()[strip] - 1)) return Due.INDEX;
        return 0;
    }

    // ---- the calls

    private void all() {
        told();
        done();
        orders();
        doubts();
        strips();
        System.out.println(s.name() + ": " + refused + " calls refused");
    }

    private void told() {
        grid("write", a -> out(a[0], 0, 255) ? Due.OUTSIDE : s.full() ? Due.FULL : 0, (x, a) -> x.write(a[0]), around(0, 255));
        grid("album", a -> s.fault() ? Due.NOT : 0, (x, a) -> x.album());
        grid("picture", a -> first(noPicture(a[0]), out(a[1], 0, 5), false), (x, a) -> x.picture(a[0], a[1]), somePictures(), around(0, 5));
        grid("thing", a -> first(noThing(a[0]), out(a[1], 0, 2), false), (x, a) -> x.thing(a[0], a[1]), around(0, s.kinds.length() - 1), around(0, 2));
        grid("piece", a -> first(noPicture(a[0]), noMatter(a[1]) || out(a[2], 0, 2), false), (x, a) -> x.piece(a[0], a[1], a[2]),
                somePictures(), someMatters(), around(0, 2));
        grid("told", a -> first(false, a[0] < 0 || out(a[1], 0, 1), false), (x, a) -> x.told(a[0], a[1]), around(0, s.pieces().size() - 1), around(0, 1));
        grid("sun", a -> first(false, out(a[0], 0, 47) || out(a[1], 0, 1), false), (x, a) -> x.sun(a[0], a[1]), around(0, 47), around(0, 1));
    }

    private void done() {
        grid("point", a -> first(noPicture(a[0]), noValue(0, a[1]) || out(a[2], 0, 9), false), (x, a) -> x.point(a[0], a[1], a[2]),
                somePictures(), around(0, 24), around(0, 9));
        grid("length", a -> first(noPicture(a[0]), noValue(1, a[1]) || out(a[2], 0, 99), false), (x, a) -> x.length(a[0], a[1], a[2]),
                somePictures(), around(0, 999), around(0, 99));
        grid("see", a -> first(noPicture(a[0]) || noThing(a[1]), !noThing(a[1]) && noValue(2 + a[1], a[2]), false), (x, a) -> x.see(a[0], a[1], a[2]),
                somePictures(), new int[] {LEAST, -1, 0, 1, 2, 3, 4, 5, 6, GREATEST - 1, GREATEST}, new int[] {LEAST, -1, 0, 1, 2, 9, 10, GREATEST});
        grid("strike", a -> first(noPicture(a[0]), noMatter(a[1]), !s.pieces().contains(8 * a[0] + a[1])), (x, a) -> x.strike(a[0], a[1]),
                somePictures(), new int[] {LEAST, -1, 0, 1, 2, 3, 4, 5, 6, 7, 8, GREATEST});
        grid("undo", a -> s.undone() ? 0 : Due.NOT, (x, a) -> x.undo());
        grid("keep", a -> first(out(a[0], 0, 1), false, false), (x, a) -> x.keep(a[0]), around(0, 1));
        grid("back", a -> out(a[0], 0, 1) ? Due.UNKNOWN : s.kept()[a[0]] ? 0 : Due.NOT, (x, a) -> x.back(a[0]), around(0, 1));
    }

    private void orders() {
        int[] pictures = {LEAST, -1, 0, 1, 2, 6, 7, GREATEST};
        grid("before", a -> first(noPicture(a[0]) || noPicture(a[1]) || a[0] == a[1], false, false), (x, a) -> x.before(a[0], a[1]), pictures, pictures);
        grid("often", a -> first(noPicture(a[0]) || noPicture(a[1]) || a[0] == a[1], false, false), (x, a) -> x.often(a[0], a[1]), pictures, pictures);
        grid("order", a -> first(false, a[0] < 0 || a[1] < 0, false), (x, a) -> x.order(a[0], a[1]), around(0, 5039), around(0, 6));
        grid("place", a -> first(noPicture(a[0]), out(a[1], 0, 1), !s.orders()), (x, a) -> x.place(a[0], a[1]), somePictures(), around(0, 1));
        grid("left", a -> first(noPicture(a[0]), out(a[1], 0, 2), false), (x, a) -> x.left(a[0], a[1]), somePictures(), around(0, 2));
    }

    private void doubts() {
        grid("knot", a -> first(false, out(a[0], 0, 1), false), (x, a) -> x.knot(a[0]), around(0, 1));
        grid("loose", a -> first(false, a[0] < -1, false), (x, a) -> x.loose(a[0]), around(-1, 55));
        grid("would", a -> first(noPicture(a[0]), noValue(a[1], a[2]), false), (x, a) -> x.would(a[0], a[1], a[2]), somePictures(),
                new int[] {LEAST, -1, 0, 1, 2, 3, 4, 5, 6, 7, 8, GREATEST}, new int[] {LEAST, -1, 0, 1, 2, 9, 10, 24, 25, 999, 1000, GREATEST});
        grid("ask", a -> first(false, out(a[0], 0, 1), false), (x, a) -> x.ask(a[0]), around(0, 1));
        grid("count", a -> first(false, out(a[0], 0, 9), false), (x, a) -> x.count(a[0]), around(0, 9));
    }

    private void strips() {
        grid("strip", a -> out(a[0], 0, 2) ? Due.UNKNOWN : a[1] > 8 ? Due.OUTSIDE : a[1] < 0 ? Due.SIZE : 0, (x, a) -> x.strip(a[0], a[1]),
                someStrips(), around(0, 8));
        grid("set", a -> strips(a[0], false, false, a[1]), (x, a) -> x.set(a[0], a[1], 77), someStrips(), somePlaces());
        grid("load", a -> strips(a[0], noPicture(a[2]), out(a[3], 0, 1), a[1]), (x, a) -> x.load(a[0], a[1], a[2], a[3]),
                someStrips(), new int[] {-1, 0, 1, 2, 3, 8}, somePictures(), around(0, 1));
        grid("work", a -> strips(a[0], false, out(a[2], 0, 3) || a[2] > 1 && out(a[3], 0, 99), a[2] < 2 ? new int[] {a[1], a[3]} : new int[] {a[1]}),
                (x, a) -> x.work(a[0], a[1], a[2], a[3]), someStrips(), new int[] {-1, 0, 1, 2, 3, 8}, new int[] {-1, 0, 1, 2, 3, 4},
                new int[] {LEAST, -1, 0, 1, 2, 7, 8, 99, 100, GREATEST});
        grid("bits", a -> strips(a[0], false, false, a[1]), (x, a) -> x.bits(a[0], a[1]), someStrips(), somePlaces());
        grid("sum", a -> strips(a[0], false, false), (x, a) -> x.sum(a[0]), someStrips());
        grid("drop", a -> strips(a[0], false, false), (x, a) -> x.drop(a[0]), someStrips());
    }
}
