import java.util.ArrayDeque;
import java.util.ArrayList;
import java.util.Arrays;
import java.util.List;

/**
 * The document once more, in its slowest form: every row of pictures is looked at, every piece is an object of a
 * list. Written apart from AlbumHours, so that a fault in the one does not stand in the other too.
 */
final class PlainAlbum {
    static final int NONE = -1, UNKNOWN = -2, OUTSIDE = -3, NOT = -4, FULL = -5, NULL = -11, INDEX = -12, SIZE = -13;

    record Piece(int picture, int matter, int value, int slack) { }

    record Token(int start, String letters) { }

    /** Where the text has its fault. */
    @SuppressWarnings("serial")
    private static final class Fault extends RuntimeException {
        final int place;

        Fault(int place) {
            super(null, null, false, false);
            this.place = place;
        }
    }

    private static final class State {
        int noon = 24;
        int grows = 4;
        int low = 5;
        List<String> words = new ArrayList<>();
        List<String> kinds = new ArrayList<>();
        List<Piece> pieces = new ArrayList<>();

        State copy() {
            State other = new State();
            other.noon = noon;
            other.grows = grows;
            other.low = low;
            other.words.addAll(words);
            other.kinds.addAll(kinds);
            other.pieces.addAll(pieces);
            return other;
        }
    }

    private State state = new State();
    private final StringBuilder text = new StringBuilder();
    private final ArrayDeque<List<Piece>> undone = new ArrayDeque<>();
    private final List<List<Piece>> kept = new ArrayList<>(Arrays.asList(null, null));
    private final long[][] strips = new long[3][];
    private long latest;

    // ---- what is told

    int write(int letter) {
        if (letter < 0 || letter > 255) return OUTSIDE;
        if (text.length() == 200) return FULL;
        text.append((char) letter);
        return text.length();
    }

    int erase() {
        int had = text.length();
        text.setLength(0);
        return had;
    }

    int fault() {
        try {
            readText(state.copy());
            return NONE;
        } catch (Fault fault) {
            return fault.place;
        }
    }

    int album() {
        State then = state.copy();
        int clauses;
        try {
            clauses = readText(then);
        } catch (Fault fault) {
            return NOT;
        }
        state = then;
        text.setLength(0);
        undone.clear();
        kept.set(0, null);
        kept.set(1, null);
        Arrays.fill(strips, null);
        return clauses;
    }

    int find() {
        return state.words.indexOf(text.toString().replace(" ", ""));
    }

    private List<Token> tokens() {
        List<Token> found = new ArrayList<>();
        java.util.regex.Matcher m = java.util.regex.Pattern.compile("[a-z]+|[0-9]+|[^ ]", java.util.regex.Pattern.DOTALL)
                .matcher(text);
        while (m.find()) found.add(new Token(m.start(), m.group()));
        found.add(new Token(text.length(), ""));
        return found;
    }

    private int readText(State then) {
        List<Token> tokens = tokens();
        int at = 0;
        int clauses = 0;
        while (true) {
            at = readClause(then, tokens, at);
            clauses++;
            Token behind = tokens.get(at);
            if (behind.letters().isEmpty()) return clauses;
            if (!behind.letters().equals(";") || clauses == 24) throw new Fault(behind.start());
            at++;
        }
    }

    private int readClause(State then, List<Token> tokens, int at) {
        Token first = tokens.get(at);
        switch (first.letters()) {
            case "album" -> {
                then.noon = 24;
                then.grows = 4;
                then.low = 5;
                then.words.clear();
                then.kinds.clear();
                then.pieces.clear();
                return at + 1;
            }
            case "sun" -> {
                int noon = number(tokens.get(at + 1), 18, 30);
                int grows = number(tokens.get(at + 2), 1, 9);
                int low = number(tokens.get(at + 3), 1, 40);
                then.noon = noon;
                then.grows = grows;
                then.low = low;
                return at + 4;
            }
            case "picture" -> {
                if (then.words.size() == 7) throw new Fault(first.start());
                Token word = tokens.get(at + 1);
                if (!word.letters().matches("[a-z]{1,5}") || then.words.contains(word.letters())) throw new Fault(word.start());
                then.words.add(word.letters());
                return at + 2;
            }
            case "thing" -> {
                if (then.kinds.size() == 6) throw new Fault(first.start());
                Token kind = tokens.get(at + 1);
                if (!List.of("comes", "goes", "passes", "wears").contains(kind.letters())) throw new Fault(kind.start());
                then.kinds.add(kind.letters());
                return at + 2;
            }
            case "point", "long" -> {
                int matter = first.letters().equals("point") ? 0 : 1;
                int picture = number(tokens.get(at + 1), 0, then.words.size() - 1);
                int value = number(tokens.get(at + 2), 0, matter == 0 ? 24 : 999);
                int slack = number(tokens.get(at + 3), 0, matter == 0 ? 9 : 99);
                put(then.pieces, new Piece(picture, matter, value, slack));
                return at + 4;
            }
            case "see" -> {
                int picture = number(tokens.get(at + 1), 0, then.words.size() - 1);
                int thing = number(tokens.get(at + 2), 0, then.kinds.size() - 1);
                int value = number(tokens.get(at + 3), 0, then.kinds.get(thing).equals("wears") ? 9 : 1);
                put(then.pieces, new Piece(picture, 2 + thing, value, 0));
                return at + 4;
            }
            default -> throw new Fault(first.start());
        }
    }

    private static int number(Token token, int least, int most) {
        if (!token.letters().matches("[0-9]{1,3}")) throw new Fault(token.start());
        int number = Integer.parseInt(token.letters());
        if (number < least || number > most) throw new Fault(token.start());
        return number;
    }

    private static int indexOf(List<Piece> pieces, int picture, int matter) {
        for (int i = 0; i < pieces.size(); i++) {
            if (pieces.get(i).picture() == picture && pieces.get(i).matter() == matter) return i;
        }
        return NONE;
    }

    private static void put(List<Piece> pieces, Piece piece) {
        int i = indexOf(pieces, piece.picture(), piece.matter());
        if (i == NONE) pieces.add(piece);
        else pieces.set(i, piece);
    }

    private static Integer value(List<Piece> pieces, int picture, int matter) {
        int i = indexOf(pieces, picture, matter);
        return i == NONE ? null : (Integer) pieces.get(i).value();
    }

    private boolean noPicture(int picture) {
        return picture < 0 || picture >= state.words.size();
    }

    private boolean noThing(int thing) {
        return thing < 0 || thing >= state.kinds.size();
    }

    private boolean noMatter(int matter) {
        return matter < 0 || matter > 1 + state.kinds.size();
    }

    int picture(int picture, int what) {
        if (noPicture(picture)) return UNKNOWN;
        if (what < 0 || what > 5) return OUTSIDE;
        List<Integer> window = window(state.pieces, picture);
        return switch (what) {
            case 0 -> state.words.get(picture).length();
            case 1 -> (int) state.pieces.stream().filter(p -> p.picture() == picture).count();
            case 2 -> window.size();
            case 3 -> window.isEmpty() ? NONE : window.get(0);
            case 4 -> window.isEmpty() ? NONE : window.get(window.size() - 1);
            default -> {
                int n = 0;
                for (int other = 0; other < state.words.size(); other++) if (isBefore(other, picture)) n++;
                yield n;
            }
        };
    }

    int thing(int thing, int what) {
        if (noThing(thing)) return UNKNOWN;
        if (what < 0 || what > 2) return OUTSIDE;
        if (what == 0) return List.of("comes", "goes", "passes", "wears").indexOf(state.kinds.get(thing));
        int bits = 0;
        for (Piece p : state.pieces) if (p.matter() == 2 + thing && (what == 1 || p.value() > 0)) bits |= 1 << p.picture();
        return bits;
    }

    int piece(int picture, int matter, int what) {
        if (noPicture(picture)) return UNKNOWN;
        if (noMatter(matter) || what < 0 || what > 2) return OUTSIDE;
        int i = indexOf(state.pieces, picture, matter);
        if (i == NONE || what == 2) return i;
        return what == 0 ? state.pieces.get(i).value() : state.pieces.get(i).slack();
    }

    int told(int k, int what) {
        if (k < 0 || what < 0 || what > 1) return OUTSIDE;
        if (k >= state.pieces.size()) return NONE;
        return what == 0 ? state.pieces.get(k).picture() : state.pieces.get(k).matter();
    }

    int sun(int slot, int what) {
        if (slot < 0 || slot > 47 || what < 0 || what > 1) return OUTSIDE;
        int far = slot - state.noon;
        if (far < -12 || far > 12) return NONE;
        return what == 0 ? far + 12 : state.low + (int) Math.floor(state.grows * far * far / 4.0);
    }

    // ---- what is done

    private void remember() {
        undone.addLast(new ArrayList<>(state.pieces));
        if (undone.size() > 8) undone.removeFirst();
    }

    private int tell(Piece piece) {
        remember();
        put(state.pieces, piece);
        return state.pieces.size();
    }

    int point(int picture, int value, int slack) {
        if (noPicture(picture)) return UNKNOWN;
        if (value < 0 || value > 24 || slack < 0 || slack > 9) return OUTSIDE;
        return tell(new Piece(picture, 0, value, slack));
    }

    int length(int picture, int value, int slack) {
        if (noPicture(picture)) return UNKNOWN;
        if (value < 0 || value > 999 || slack < 0 || slack > 99) return OUTSIDE;
        return tell(new Piece(picture, 1, value, slack));
    }

    int see(int picture, int thing, int value) {
        if (noPicture(picture) || noThing(thing)) return UNKNOWN;
        if (badValue(2 + thing, value)) return OUTSIDE;
        return tell(new Piece(picture, 2 + thing, value, 0));
    }

    private boolean badValue(int matter, int value) {
        int most = matter == 0 ? 24 : matter == 1 ? 999 : state.kinds.get(matter - 2).equals("wears") ? 9 : 1;
        return value < 0 || value > most;
    }

    int strike(int picture, int matter) {
        if (noPicture(picture)) return UNKNOWN;
        if (noMatter(matter)) return OUTSIDE;
        int i = indexOf(state.pieces, picture, matter);
        if (i == NONE) return NOT;
        remember();
        state.pieces.remove(i);
        return state.pieces.size();
    }

    int undo() {
        if (undone.isEmpty()) return NOT;
        state.pieces = undone.removeLast();
        return undone.size();
    }

    int keep(int k) {
        if (k != 0 && k != 1) return UNKNOWN;
        kept.set(k, new ArrayList<>(state.pieces));
        return state.pieces.size();
    }

    int back(int k) {
        if (k != 0 && k != 1) return UNKNOWN;
        if (kept.get(k) == null) return NOT;
        state.pieces = new ArrayList<>(kept.get(k));
        undone.clear();
        return state.pieces.size();
    }

    // ---- orders

    private boolean isAhead(List<Piece> pieces, int one, int other) {
        for (int t = 0; t < state.kinds.size(); t++) {
            Integer a = value(pieces, one, 2 + t);
            Integer b = value(pieces, other, 2 + t);
            if (a == null || b == null) continue;
            String kind = state.kinds.get(t);
            if (kind.equals("comes") && a == 0 && b == 1) return true;
            if (kind.equals("goes") && a == 1 && b == 0) return true;
            if (kind.equals("wears") && a < b) return true;
        }
        return false;
    }

    /** Goes from one picture to all that it is ahead of, and on from these. */
    private boolean isBefore(int one, int other) {
        int n = state.words.size();
        boolean[] seen = new boolean[n];
        ArrayDeque<Integer> open = new ArrayDeque<>(List.of(one));
        while (!open.isEmpty()) {
            int from = open.pop();
            for (int to = 0; to < n; to++) {
                if (to == from || seen[to] || !isAhead(state.pieces, from, to)) continue;
                seen[to] = true;
                open.push(to);
            }
        }
        return seen[other];
    }

    private List<Integer> window(List<Piece> pieces, int picture) {
        List<Integer> slots = new ArrayList<>();
        int p = indexOf(pieces, picture, 0);
        int l = indexOf(pieces, picture, 1);
        for (int s = 0; s < 48; s++) {
            boolean up = sun(s, 0) != NONE;
            if ((p != NONE || l != NONE) && !up) continue;
            if (p != NONE && Math.abs(sun(s, 0) - pieces.get(p).value()) > pieces.get(p).slack()) continue;
            if (l != NONE && Math.abs(sun(s, 1) - pieces.get(l).value()) > pieces.get(l).slack()) continue;
            slots.add(s);
        }
        return slots;
    }

    /** All orders of some pictures, the first by numbers ahead. */
    private List<List<Integer>> orders(List<Piece> pieces, List<Integer> some) {
        int n = state.words.size();
        boolean[][] ahead = new boolean[n][n];
        for (int a : some) for (int b : some) ahead[a][b] = a != b && isAhead(pieces, a, b);
        List<List<Integer>> windows = new ArrayList<>();
        for (int p = 0; p < n; p++) windows.add(window(pieces, p));
        Integer[][] passing = new Integer[state.kinds.size()][];
        for (int t = 0; t < passing.length; t++) {
            if (!state.kinds.get(t).equals("passes")) continue;
            passing[t] = new Integer[n];
            for (int p = 0; p < n; p++) passing[t][p] = value(pieces, p, 2 + t);
        }
        List<List<Integer>> found = new ArrayList<>();
        permute(some, new ArrayList<>(), row -> {
            if (isOrder(row, ahead, windows, passing)) found.add(new ArrayList<>(row));
        });
        return found;
    }

    private interface Visit {
        void row(List<Integer> row);
    }

    private static void permute(List<Integer> some, List<Integer> row, Visit visit) {
        if (row.size() == some.size()) visit.row(row);
        for (int p : some) {
            if (row.contains(p)) continue;
            row.add(p);
            permute(some, row, visit);
            row.remove(row.size() - 1);
        }
    }

    private static boolean isOrder(List<Integer> row, boolean[][] ahead, List<List<Integer>> windows, Integer[][] passing) {
        int n = row.size();
        for (int i = 0; i < n; i++) for (int j = i + 1; j < n; j++) if (ahead[row.get(j)][row.get(i)]) return false;
        for (Integer[] seen : passing) {
            if (seen == null) continue;
            for (int i = 0; i < n; i++) for (int j = i + 1; j < n; j++) for (int k = j + 1; k < n; k++) {
                Integer a = seen[row.get(i)];
                Integer b = seen[row.get(j)];
                Integer c = seen[row.get(k)];
                if (a != null && b != null && c != null && a == 1 && b == 0 && c == 1) return false;
            }
        }
        return slotsOf(row, windows) != null;
    }

    /** For each place of a row the slots that its picture can be given; null if there is no way. */
    private static List<List<Integer>> slotsOf(List<Integer> row, List<List<Integer>> windows) {
        int n = row.size();
        boolean[][] fromStart = new boolean[n][48];
        boolean[][] toEnd = new boolean[n][48];
        for (int i = 0; i < n; i++) for (int s : windows.get(row.get(i))) {
            boolean can = i == 0;
            for (int r = 0; i > 0 && r < s; r++) can |= fromStart[i - 1][r];
            fromStart[i][s] = can;
        }
        for (int i = n - 1; i >= 0; i--) for (int s : windows.get(row.get(i))) {
            boolean can = i == n - 1;
            for (int r = s + 1; i < n - 1 && r < 48; r++) can |= toEnd[i + 1][r];
            toEnd[i][s] = can;
        }
        List<List<Integer>> slots = new ArrayList<>();
        for (int i = 0; i < n; i++) {
            List<Integer> here = new ArrayList<>();
            for (int s = 0; s < 48; s++) if (fromStart[i][s] && toEnd[i][s]) here.add(s);
            if (here.isEmpty()) return null;
            slots.add(here);
        }
        return slots;
    }

    private List<Integer> everyone() {
        List<Integer> all = new ArrayList<>();
        for (int p = 0; p < state.words.size(); p++) all.add(p);
        return all;
    }

    private List<Piece> ordersOf;
    private State ordersIn;
    private List<List<Integer>> ordersFound;

    /** The orders of what is told; found anew only if that became other. */
    private List<List<Integer>> orderList() {
        if (ordersFound == null || ordersIn != state || !ordersOf.equals(state.pieces)) {
            ordersFound = orders(state.pieces, everyone());
            ordersOf = new ArrayList<>(state.pieces);
            ordersIn = state;
        }
        return ordersFound;
    }

    private boolean notTwo(int one, int other) {
        return noPicture(one) || noPicture(other) || one == other;
    }

    int before(int one, int other) {
        if (notTwo(one, other)) return UNKNOWN;
        return isBefore(one, other) ? 1 : 0;
    }

    int orders() {
        return orderList().size();
    }

    int order(int k, int i) {
        if (k < 0 || i < 0) return OUTSIDE;
        List<List<Integer>> all = orderList();
        return k < all.size() && i < all.get(k).size() ? all.get(k).get(i) : NONE;
    }

    int place(int picture, int what) {
        if (noPicture(picture)) return UNKNOWN;
        if (what != 0 && what != 1) return OUTSIDE;
        List<List<Integer>> all = orderList();
        if (all.isEmpty()) return NOT;
        int least = 99;
        int most = -1;
        for (List<Integer> row : all) {
            least = Math.min(least, row.indexOf(picture));
            most = Math.max(most, row.indexOf(picture));
        }
        return what == 0 ? least : most;
    }

    int often(int one, int other) {
        if (notTwo(one, other)) return UNKNOWN;
        int n = 0;
        for (List<Integer> row : orderList()) if (row.indexOf(one) < row.indexOf(other)) n++;
        return n;
    }

    private boolean[] leftTo(int picture) {
        boolean[] left = new boolean[48];
        List<List<Integer>> windows = new ArrayList<>();
        for (int p = 0; p < state.words.size(); p++) windows.add(window(state.pieces, p));
        for (List<Integer> row : orderList()) {
            for (int s : slotsOf(row, windows).get(row.indexOf(picture))) left[s] = true;
        }
        return left;
    }

    int left(int picture, int what) {
        if (noPicture(picture)) return UNKNOWN;
        if (what < 0 || what > 2) return OUTSIDE;
        boolean[] left = leftTo(picture);
        int n = 0;
        int first = NONE;
        int last = NONE;
        for (int s = 0; s < 48; s++) {
            if (!left[s]) continue;
            n++;
            if (first == NONE) first = s;
            last = s;
        }
        return what == 0 ? n : what == 1 ? first : last;
    }

    // ---- what cannot be, what would be

    int knot(int what) {
        if (what != 0 && what != 1) return OUTSIDE;
        if (!orderList().isEmpty()) return NONE;
        int best = NONE;
        for (int set = 1; set < 1 << state.words.size(); set++) {
            if (best != NONE && Integer.bitCount(set) >= Integer.bitCount(best)) continue;
            List<Integer> some = new ArrayList<>();
            for (int p = 0; p < state.words.size(); p++) if ((set >> p & 1) == 1) some.add(p);
            if (orders(state.pieces, some).isEmpty()) best = set;
        }
        return what == 0 ? best : Integer.bitCount(best);
    }

    int loose(int k) {
        if (k < -1) return OUTSIDE;
        List<Integer> loose = new ArrayList<>();
        if (orderList().isEmpty()) {
            for (int i = 0; i < state.pieces.size(); i++) {
                List<Piece> fewer = new ArrayList<>(state.pieces);
                fewer.remove(i);
                if (!orders(fewer, everyone()).isEmpty()) loose.add(i);
            }
        }
        if (k == -1) return loose.size();
        return k < loose.size() ? loose.get(k) : NONE;
    }

    private int ordersWith(int picture, int matter, int value) {
        List<Piece> more = new ArrayList<>(state.pieces);
        put(more, new Piece(picture, matter, value, 0));
        return orders(more, everyone()).size();
    }

    int would(int picture, int matter, int value) {
        if (noPicture(picture)) return UNKNOWN;
        if (noMatter(matter) || badValue(matter, value)) return OUTSIDE;
        return ordersWith(picture, matter, value);
    }

    int ask(int what) {
        if (what != 0 && what != 1) return OUTSIDE;
        int best = NONE;
        int bestWorth = orderList().size();
        for (int p = 0; p < state.words.size(); p++) for (int t = 0; t < state.kinds.size(); t++) {
            if (state.kinds.get(t).equals("wears") || indexOf(state.pieces, p, 2 + t) != NONE) continue;
            int worth = Math.max(ordersWith(p, 2 + t, 0), ordersWith(p, 2 + t, 1));
            if (worth >= bestWorth) continue;
            best = 10 * p + 2 + t;
            bestWorth = worth;
        }
        if (best == NONE) return NONE;
        return what == 0 ? best : bestWorth;
    }

    // ---- strips

    private boolean noStrip(int strip) {
        return strip < 0 || strip > 2;
    }

    private boolean noPlace(int strip, int i) {
        return i < 0 || i >= strips[strip].length;
    }

    int strip(int strip, int n) {
        if (noStrip(strip)) return UNKNOWN;
        if (n > 8) return OUTSIDE;
        if (n < 0) return SIZE;
        strips[strip] = new long[n];
        return n;
    }

    int set(int strip, int i, int v) {
        if (noStrip(strip)) return UNKNOWN;
        if (strips[strip] == null) return NULL;
        if (noPlace(strip, i)) return INDEX;
        strips[strip][i] = v;
        return 1;
    }

    int load(int strip, int i, int picture, int what) {
        if (noStrip(strip) || noPicture(picture)) return UNKNOWN;
        if (what != 0 && what != 1) return OUTSIDE;
        if (strips[strip] == null) return NULL;
        if (noPlace(strip, i)) return INDEX;
        long bits = 0;
        if (what == 0) for (int s : window(state.pieces, picture)) bits += 1L << s;
        else for (int s = 0; s < 48; s++) if (leftTo(picture)[s]) bits += 1L << s;
        strips[strip][i] = bits;
        return Long.bitCount(bits);
    }

    int work(int strip, int i, int way, int j) {
        if (noStrip(strip)) return UNKNOWN;
        if (way < 0 || way > 3 || way >= 2 && (j < 0 || j > 99)) return OUTSIDE;
        if (strips[strip] == null) return NULL;
        if (noPlace(strip, i) || way < 2 && noPlace(strip, j)) return INDEX;
        long[] row = strips[strip];
        switch (way) {
            case 0 -> row[i] &= row[j];
            case 1 -> row[i] |= row[j];
            case 2 -> row[i] <<= j;
            default -> row[i] >>= j;
        }
        latest = row[i];
        return 1;
    }

    int bits(int strip, int i) {
        if (noStrip(strip)) return UNKNOWN;
        if (strips[strip] == null) return NULL;
        if (noPlace(strip, i)) return INDEX;
        return Long.bitCount(strips[strip][i]);
    }

    int sum(int strip) {
        if (noStrip(strip)) return UNKNOWN;
        if (strips[strip] == null) return NULL;
        latest = Arrays.stream(strips[strip]).sum();
        return strips[strip].length;
    }

    int drop(int strip) {
        if (noStrip(strip)) return UNKNOWN;
        if (strips[strip] == null) return NULL;
        int had = strips[strip].length;
        strips[strip] = null;
        return had;
    }

    long latest() {
        return latest;
    }

    int count(int what) {
        return switch (what) {
            case 0 -> state.words.size();
            case 1 -> state.kinds.size();
            case 2 -> state.pieces.size();
            case 3 -> {
                int pairs = 0;
                for (int a : everyone()) for (int b : everyone()) if (a != b && isBefore(a, b)) pairs++;
                yield pairs;
            }
            case 4 -> state.noon;
            case 5 -> state.grows;
            case 6 -> state.low;
            case 7 -> Arrays.stream(strips).mapToInt(s -> s == null ? 0 : s.length).sum();
            case 8 -> undone.size();
            case 9 -> text.length();
            default -> OUTSIDE;
        };
    }
}
