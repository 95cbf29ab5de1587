import java.util.Random;

/** Many runs of calls by chance (the same ones each time): AlbumHours and PlainAlbum must answer alike. */
public final class ModelTest {
    private static final int RUNS = 600;
    private static final int CALLS = 45;
    private static final String[] NAMES = {
        "write", "erase", "fault", "album", "find", "picture", "thing", "piece", "told", "sun",
        "point", "length", "see", "strike", "undo", "keep", "back",
        "before", "orders", "order", "place", "often", "left", "knot", "loose", "would", "ask",
        "strip", "set", "load", "work", "bits", "sum", "drop", "latest", "count"};
    /** How often each of them is called, as NAMES stand. */
    private static final int[] WEIGHTS = {
        0, 1, 2, 2, 1, 12, 4, 6, 4, 2,
        8, 6, 30, 8, 7, 3, 3,
        6, 8, 10, 8, 6, 10, 8, 8, 6, 4,
        4, 4, 6, 8, 4, 3, 2, 4, 8};

    private final Random chance;
    private final AlbumHours built = new AlbumHours();
    private final PlainAlbum plain = new PlainAlbum();
    private final StringBuilder story = new StringBuilder();
    /** A day as it may have been: when each picture was taken, from when and until when each thing was there. */
    private final int[] takenAt = new int[8];
    private final int[] from = new int[8];
    private final int[] until = new int[8];
    private int wrong;

    private ModelTest(long seed) {
        chance = new Random(seed);
        for (int i = 0; i < 8; i++) {
            takenAt[i] = 12 + chance.nextInt(25);
            from[i] = 12 + chance.nextInt(20);
            until[i] = from[i] + chance.nextInt(12);
        }
    }

    public static void main(String[] args) {
        int runs = args.length > 0 ? Integer.parseInt(args[0]) : RUNS;
        long from = args.length > 1 ? Long.parseLong(args[1]) : 1;
        int wrong = 0;
        for (long seed = from; seed < from + runs; seed++) wrong += new ModelTest(seed).run(seed);
        System.out.println(wrong == 0 ? runs + " runs by chance are alike" : wrong + " runs differ");
        if (wrong != 0) System.exit(1);
    }

    private int run(long seed) {
        boolean whole = seed % 25 == 0;
        tellText(firstText(whole ? 7 : 1 + chance.nextInt(5)));
        int pieces = chance.nextInt(25);
        for (int i = 0; i < pieces; i++) callPiece(new String[] {"point", "length", "see", "see", "see"}[chance.nextInt(5)]);
        for (int i = 0; i < 3; i++) if (chance.nextInt(3) > 0) callStrip("strip");
        for (int i = 0; i < CALLS && wrong == 0; i++) {
            if (chance.nextInt(40) == 0) tellText(someText());
            else call(someName());
        }
        if (wrong != 0) System.out.println("run " + seed + ":" + story);
        return wrong == 0 ? 0 : 1;
    }

    private String someName() {
        int all = 0;
        for (int w : WEIGHTS) all += w;
        int at = chance.nextInt(all);
        int i = 0;
        while (at >= WEIGHTS[i]) at -= WEIGHTS[i++];
        return NAMES[i];
    }

    /** Mostly what fits, now and then what does not. */
    private int number(int least, int most) {
        if (chance.nextInt(25) == 0) return least - 1 - chance.nextInt(2);
        if (chance.nextInt(25) == 0) return most + 1 + chance.nextInt(2);
        if (chance.nextInt(400) == 0) return chance.nextBoolean() ? Integer.MIN_VALUE : Integer.MAX_VALUE;
        if (most < least) return least;
        return least + chance.nextInt(most - least + 1);
    }

    private int aPicture() {
        return number(0, plain.count(0) - 1);
    }

    private int aMatter() {
        return number(0, 1 + plain.count(1));
    }

    /** Mostly what was so on the day as it may have been; now and then anything. */
    private int aValue(int picture, int matter) {
        boolean so = chance.nextInt(7) > 0 && picture >= 0 && picture < 7 && matter >= 0 && matter < 8;
        if (matter == 0) return so && plain.sun(takenAt[picture], 0) >= 0 ? plain.sun(takenAt[picture], 0) : number(0, 24);
        if (matter == 1) return so && plain.sun(takenAt[picture], 1) >= 0 ? plain.sun(takenAt[picture], 1) : number(0, 999);
        if (!so) return chance.nextInt(3) == 0 ? number(0, 9) : number(0, 1);
        int t = matter - 2;
        switch (plain.thing(t, 0)) {
            case 0: return takenAt[picture] >= from[t] ? 1 : 0;
            case 1: return takenAt[picture] < from[t] ? 1 : 0;
            case 2: return takenAt[picture] >= from[t] && takenAt[picture] <= until[t] ? 1 : 0;
            default: return Math.min(9, takenAt[picture] / 4);
        }
    }

    // ---- texts

    private String firstText(int pictures) {
        StringBuilder text = new StringBuilder();
        if (chance.nextInt(3) == 0) text.append("sun ").append(18 + chance.nextInt(13)).append(' ')
                .append(1 + chance.nextInt(9)).append(' ').append(1 + chance.nextInt(40)).append(';');
        for (int p = 0; p < pictures; p++) text.append("picture ").append((char) ('a' + p)).append(p % 2 == 0 ? "" : "x").append(';');
        int things = chance.nextInt(6);
        for (int t = 0; t < things; t++) text.append("thing ").append(aKind()).append(';');
        text.setLength(text.length() - 1);
        return text.toString();
    }

    private String aKind() {
        return new String[] {"comes", "goes", "passes", "wears"}[chance.nextInt(4)];
    }

    private String someText() {
        int way = chance.nextInt(6);
        if (way == 0) return aWord() + (chance.nextBoolean() ? " " : "");
        StringBuilder text = new StringBuilder();
        int clauses = chance.nextInt(20) == 0 ? 23 + chance.nextInt(3) : 1 + chance.nextInt(5);
        for (int c = 0; c < clauses; c++) {
            if (c > 0) text.append(blanks(0)).append(';');
            text.append(blanks(0)).append(clauses > 22 ? "album" : aClause());
        }
        text.append(blanks(0));
        if (way == 1) text.insert(chance.nextInt(text.length() + 1), "; 0az{.\t\u00e9".charAt(chance.nextInt(9)));
        if (way == 2 && text.length() > 0) text.deleteCharAt(chance.nextInt(text.length()));
        return text.toString();
    }

    private String blanks(int least) {
        return "   ".substring(0, chance.nextInt(5) == 0 ? 1 + chance.nextInt(3) : least);
    }

    private String aWord() {
        String[] words = {"a", "bx", "c", "dx", "e", "album", "abcde", "abcdef", "q", "zz", "picture", "sun"};
        return words[chance.nextInt(words.length)];
    }

    private String aClause() {
        switch (chance.nextInt(9)) {
            case 0: return chance.nextInt(8) == 0 ? "album" : "sun" + blanks(0) + number(18, 30) + " " + number(1, 9) + " " + number(1, 40);
            case 1: return "picture " + aWord();
            case 2: return "thing " + (chance.nextInt(12) == 0 ? aWord() : aKind());
            case 3: return "point" + blanks(0) + aPicture() + blanks(1) + number(0, 24) + " " + number(0, 9);
            case 4: return "long " + aPicture() + " " + (chance.nextInt(3) == 0 ? "0" : "") + number(0, 150) + blanks(1) + number(0, 99);
            default: return "see" + blanks(1) + aPicture() + blanks(1) + number(0, plain.count(1) - 1) + " " + number(0, 1);
        }
    }

    private void tellText(String text) {
        compare("erase()", built.erase(), plain.erase());
        for (int i = 0; i < text.length(); i++) {
            int letter = text.charAt(i);
            if (built.write(letter) != plain.write(letter)) compare("write(" + letter + ")", 0, 1);
        }
        story.append("\n  text '").append(text).append("'");
        compare("fault()", built.fault(), plain.fault());
        compare("find()", built.find(), plain.find());
        compare("album()", built.album(), plain.album());
    }

    // ---- calls

    private void compare(String call, long answered, long due) {
        story.append("\n  ").append(call).append(" = ").append(answered);
        if (answered == due) return;
        story.append(", due is ").append(due);
        wrong++;
    }

    private void call(String name) {
        switch (name) {
            case "write": case "erase": case "fault": case "album": case "find": case "undo": case "orders": case "latest":
                callBare(name);
                break;
            case "keep": case "back": case "knot": case "loose": case "ask": case "sum": case "drop": case "count":
                callOne(name);
                break;
            case "point": case "length": case "see": case "strike": case "would":
                callPiece(name);
                break;
            case "strip": case "set": case "load": case "work": case "bits":
                callStrip(name);
                break;
            default:
                callTwo(name);
        }
    }

    private void callBare(String name) {
        switch (name) {
            case "erase": compare("erase()", built.erase(), plain.erase()); break;
            case "fault": compare("fault()", built.fault(), plain.fault()); break;
            case "album": compare("album()", built.album(), plain.album()); break;
            case "find": compare("find()", built.find(), plain.find()); break;
            case "undo": compare("undo()", built.undo(), plain.undo()); break;
            case "orders": compare("orders()", built.orders(), plain.orders()); break;
            case "latest": compare("latest()", built.latest(), plain.latest()); break;
            default: compare("write(97)", built.write(97), plain.write(97));
        }
    }

    private void callOne(String name) {
        int a = name.equals("count") ? number(0, 9) : name.equals("loose") ? number(-1, 3)
                : name.equals("sum") || name.equals("drop") ? number(0, 2) : number(0, 1);
        String call = name + "(" + a + ")";
        switch (name) {
            case "keep": compare(call, built.keep(a), plain.keep(a)); break;
            case "back": compare(call, built.back(a), plain.back(a)); break;
            case "knot": compare(call, built.knot(a), plain.knot(a)); break;
            case "loose": compare(call, built.loose(a), plain.loose(a)); break;
            case "ask": compare(call, built.ask(a), plain.ask(a)); break;
            case "sum": compare(call, built.sum(a), plain.sum(a)); break;
            case "drop": compare(call, built.drop(a), plain.drop(a)); break;
            default: compare(call, built.count(a), plain.count(a));
        }
    }

    private void callPiece(String name) {
        int p = aPicture();
        int m = aMatter();
        int t = number(0, plain.count(1) - 1);
        int v = aValue(p, name.equals("point") ? 0 : name.equals("length") ? 1 : name.equals("see") ? 2 + t : m);
        int s = name.equals("length") ? number(0, 99) : number(0, 9);
        String call = name + "(" + p + ", " + (name.equals("see") ? t : m) + ", " + v + "; " + s + ")";
        switch (name) {
            case "point": compare(call, built.point(p, v, s), plain.point(p, v, s)); break;
            case "length": compare(call, built.length(p, v, s), plain.length(p, v, s)); break;
            case "see": compare(call, built.see(p, t, v), plain.see(p, t, v)); break;
            case "strike": compare(call, built.strike(p, m), plain.strike(p, m)); break;
            default: compare(call, built.would(p, m, v), plain.would(p, m, v));
        }
    }

    private void callTwo(String name) {
        int p = aPicture();
        int q = aPicture();
        int w = number(0, 2);
        String call = name + "(" + p + ", " + q + "; " + w + ")";
        switch (name) {
            case "before": compare(call, built.before(p, q), plain.before(p, q)); break;
            case "often": compare(call, built.often(p, q), plain.often(p, q)); break;
            case "place": compare(call, built.place(p, w), plain.place(p, w)); break;
            case "left": compare(call, built.left(p, w), plain.left(p, w)); break;
            case "picture": compareWhat(p); break;
            case "thing":
                int t = number(0, plain.count(1) - 1);
                compare("thing(" + t + ", " + w + ")", built.thing(t, w), plain.thing(t, w));
                break;
            case "piece":
                int m = aMatter();
                compare("piece(" + p + ", " + m + ", " + w + ")", built.piece(p, m, w), plain.piece(p, m, w));
                break;
            case "told":
                int k = number(0, plain.count(2));
                int x = number(0, 1);
                compare("told(" + k + ", " + x + ")", built.told(k, x), plain.told(k, x));
                break;
            case "sun":
                int slot = number(0, 47);
                int y = number(0, 1);
                compare("sun(" + slot + ", " + y + ")", built.sun(slot, y), plain.sun(slot, y));
                break;
            default:
                int o = number(0, Math.max(0, plain.orders() - 1));
                int i = number(0, plain.count(0));
                compare("order(" + o + ", " + i + ")", built.order(o, i), plain.order(o, i));
        }
    }

    private void compareWhat(int p) {
        int what = number(0, 5);
        compare("picture(" + p + ", " + what + ")", built.picture(p, what), plain.picture(p, what));
    }

    private void callStrip(String name) {
        int s = number(0, 2);
        int i = number(0, chance.nextInt(3) == 0 ? 7 : 1);
        int n = number(0, 8);
        int v = chance.nextInt();
        int way = number(0, 3);
        int j = chance.nextBoolean() ? number(0, 99) : number(0, 1);
        int p = aPicture();
        int w = number(0, 1);
        String call = name + "(" + s + ", " + i + "; n " + n + " v " + v + " way " + way + " j " + j + " p " + p + " w " + w + ")";
        switch (name) {
            case "strip": compare(call, built.strip(s, n), plain.strip(s, n)); break;
            case "set": compare(call, built.set(s, i, v), plain.set(s, i, v)); break;
            case "load": compare(call, built.load(s, i, p, w), plain.load(s, i, p, w)); break;
            case "work": compare(call, built.work(s, i, way, j), plain.work(s, i, way, j)); break;
            default: compare(call, built.bits(s, i), plain.bits(s, i));
        }
        compare("latest()", built.latest(), plain.latest());
    }
}
