import java.util.Arrays;

/** Photographs of one day, put in order by what they show; what each call answers stands in DOC.md. */
public final class AlbumHours {
    public static final int NONE = -1, UNKNOWN = -2, OUTSIDE = -3, NOT = -4, FULL = -5, NULL = -11, INDEX = -12, SIZE = -13;

    private static final int SLOTS = 48;
    private static final int PICTURES = 7;
    private static final int THINGS = 6;
    private static final int SETS = 1 << PICTURES;
    /** Matters: a point, a length, then the things in their order. */
    private static final int POINT = 0, LENGTH = 1, FIRST_THING = 2;
    private static final int MATTERS = FIRST_THING + THINGS;
    private static final int KEYS = PICTURES * MATTERS;
    private static final int COMES = 0, GOES = 1, PASSES = 2, WEARS = 3;
    private static final int LETTERS = 200, BLANK = 32;
    private static final int WORD_LETTERS = 5, CLAUSES = 24;
    private static final int MOST_UNDONE = 8, KEPT = 2;

    private final Text text;
    private final Album now;
    private final Reader reader;
    private final History history;
    private final Rules rules;
    private final Orders orders;
    private final Hours hours;
    private final Doubts doubts;
    private final Strips strips;

    public AlbumHours() {
        text = new Text();
        now = new Album();
        reader = new Reader(text);
        history = new History();
        rules = new Rules();
        orders = new Orders();
        hours = new Hours();
        doubts = new Doubts();
        strips = new Strips();
    }

    // ---- what is told

    public int write(int letter) {
        if (letter < 0 || letter > 255) return OUTSIDE;
        return text.add(letter) ? text.many : FULL;
    }

    public int erase() {
        return text.clear();
    }

    public int fault() {
        return reader.read(now);
    }

    public int album() {
        if (reader.read(now) != NONE) return NOT;
        now.copyFrom(reader.draft);
        text.clear();
        history.clear();
        strips.clear();
        forgetFindings();
        return reader.clauses;
    }

    public int find() {
        return now.pictureNamed(text.wholeWord());
    }

    public int picture(int picture, int what) {
        if (!now.hasPicture(picture)) return UNKNOWN;
        switch (what) {
            case 0: return now.wordLetters(picture);
            case 1: return now.pieces.manyOf(picture);
            case 2: return Long.bitCount(rulesNow().windowOf(picture));
            case 3: return firstSlot(rulesNow().windowOf(picture));
            case 4: return lastSlot(rulesNow().windowOf(picture));
            case 5: return Integer.bitCount(rulesNow().earlierThan(picture));
            default: return OUTSIDE;
        }
    }

    public int thing(int thing, int what) {
        if (!now.hasThing(thing)) return UNKNOWN;
        switch (what) {
            case 0: return now.kindOf(thing);
            case 1: return now.picturesSeeing(thing, 0);
            case 2: return now.picturesSeeing(thing, 1);
            default: return OUTSIDE;
        }
    }

    public int piece(int picture, int matter, int what) {
        if (!now.hasPicture(picture)) return UNKNOWN;
        if (!now.hasMatter(matter)) return OUTSIDE;
        switch (what) {
            case 0: return now.pieces.valueOf(picture, matter);
            case 1: return now.pieces.slackOf(picture, matter);
            case 2: return now.pieces.numberOf(picture, matter);
            default: return OUTSIDE;
        }
    }

    public int told(int k, int what) {
        if (k < 0) return OUTSIDE;
        switch (what) {
            case 0: return now.pieces.pictureOf(k);
            case 1: return now.pieces.matterOf(k);
            default: return OUTSIDE;
        }
    }

    public int sun(int slot, int what) {
        if (slot < 0 || slot >= SLOTS) return OUTSIDE;
        switch (what) {
            case 0: return now.sun.pointAt(slot);
            case 1: return now.sun.lengthAt(slot);
            default: return OUTSIDE;
        }
    }

    // ---- what is done

    public int point(int picture, int value, int slack) {
        return tell(picture, POINT, value, slack);
    }

    public int length(int picture, int value, int slack) {
        return tell(picture, LENGTH, value, slack);
    }

    public int see(int picture, int thing, int value) {
        if (!now.hasThing(thing)) return UNKNOWN;
        return tell(picture, FIRST_THING + thing, value, 0);
    }

    private int tell(int picture, int matter, int value, int slack) {
        if (!now.hasPicture(picture)) return UNKNOWN;
        if (!now.takesValue(matter, value) || slack < 0 || slack > mostSlack(matter)) return OUTSIDE;
        history.remember(now.pieces);
        now.pieces.put(picture, matter, value, slack);
        forgetFindings();
        return now.pieces.many;
    }

    public int strike(int picture, int matter) {
        if (!now.hasPicture(picture)) return UNKNOWN;
        if (!now.hasMatter(matter)) return OUTSIDE;
        if (now.pieces.numberOf(picture, matter) == NONE) return NOT;
        history.remember(now.pieces);
        now.pieces.remove(picture, matter);
        forgetFindings();
        return now.pieces.many;
    }

    public int undo() {
        if (!history.restoreLatest(now.pieces)) return NOT;
        forgetFindings();
        return history.many;
    }

    public int keep(int k) {
        if (k < 0 || k >= KEPT) return UNKNOWN;
        history.store(k, now.pieces);
        return now.pieces.many;
    }

    public int back(int k) {
        if (k < 0 || k >= KEPT) return UNKNOWN;
        if (!history.restoreKept(k, now.pieces)) return NOT;
        forgetFindings();
        return now.pieces.many;
    }

    // ---- orders

    public int before(int one, int other) {
        if (!areTwoPictures(one, other)) return UNKNOWN;
        return hasBit(rulesNow().earlierThan(other), one) ? 1 : 0;
    }

    public int orders() {
        return ordersNow().total;
    }

    public int order(int k, int i) {
        if (k < 0 || i < 0) return OUTSIDE;
        return ordersNow().pictureAt(k, i);
    }

    public int place(int picture, int what) {
        if (!now.hasPicture(picture)) return UNKNOWN;
        if (what < 0 || what > 1) return OUTSIDE;
        int places = hoursNow().placesOf(picture);
        if (places == 0) return NOT;
        return what == 0 ? firstSlot(places) : lastSlot(places);
    }

    public int often(int one, int other) {
        if (!areTwoPictures(one, other)) return UNKNOWN;
        return doubts.ordersWithAhead(rulesNow(), one, other);
    }

    public int left(int picture, int what) {
        if (!now.hasPicture(picture)) return UNKNOWN;
        switch (what) {
            case 0: return Long.bitCount(hoursNow().leftTo(picture));
            case 1: return firstSlot(hoursNow().leftTo(picture));
            case 2: return lastSlot(hoursNow().leftTo(picture));
            default: return OUTSIDE;
        }
    }

    // ---- what cannot be, what would be

    public int knot(int what) {
        if (what < 0 || what > 1) return OUTSIDE;
        int set = doubts.knotOf(rulesNow());
        if (set == NONE) return NONE;
        return what == 0 ? set : Integer.bitCount(set);
    }

    public int loose(int k) {
        if (k < -1) return OUTSIDE;
        doubts.seekLoose(now, rulesNow());
        return k == -1 ? doubts.looseMany : doubts.looseNumber(k);
    }

    public int would(int picture, int matter, int value) {
        if (!now.hasPicture(picture)) return UNKNOWN;
        if (!now.takesValue(matter, value)) return OUTSIDE;
        return doubts.ordersWithPiece(now, rulesNow(), picture, matter, value);
    }

    public int ask(int what) {
        if (what < 0 || what > 1) return OUTSIDE;
        doubts.seekAsk(now, rulesNow(), ordersNow().total);
        return what == 0 ? doubts.askedFor : doubts.askWorth;
    }

    // ---- strips

    public int strip(int strip, int n) {
        if (!strips.has(strip)) return UNKNOWN;
        if (n > Strips.MOST_PLACES) return OUTSIDE;
        if (n < 0) return SIZE;
        strips.renew(strip, n);
        return n;
    }

    public int set(int strip, int i, int v) {
        if (!strips.has(strip)) return UNKNOWN;
        if (strips.isMissing(strip)) return NULL;
        if (!strips.hasPlace(strip, i)) return INDEX;
        strips.put(strip, i, v);
        return 1;
    }

    public int load(int strip, int i, int picture, int what) {
        if (!strips.has(strip) || !now.hasPicture(picture)) return UNKNOWN;
        if (what < 0 || what > 1) return OUTSIDE;
        if (strips.isMissing(strip)) return NULL;
        if (!strips.hasPlace(strip, i)) return INDEX;
        long bits = what == 0 ? rulesNow().windowOf(picture) : hoursNow().leftTo(picture);
        strips.put(strip, i, bits);
        return Long.bitCount(bits);
    }

    public int work(int strip, int i, int way, int j) {
        if (!strips.has(strip)) return UNKNOWN;
        if (way < 0 || way > 3) return OUTSIDE;
        boolean moves = way > 1;
        if (moves && (j < 0 || j > 99)) return OUTSIDE;
        if (strips.isMissing(strip)) return NULL;
        if (!strips.hasPlace(strip, i)) return INDEX;
        if (!moves && !strips.hasPlace(strip, j)) return INDEX;
        strips.change(strip, i, way, j);
        return 1;
    }

    public int bits(int strip, int i) {
        if (!strips.has(strip)) return UNKNOWN;
        if (strips.isMissing(strip)) return NULL;
        if (!strips.hasPlace(strip, i)) return INDEX;
        return Long.bitCount(strips.at(strip, i));
    }

    public int sum(int strip) {
        if (!strips.has(strip)) return UNKNOWN;
        if (strips.isMissing(strip)) return NULL;
        return strips.addUp(strip);
    }

    public int drop(int strip) {
        if (!strips.has(strip)) return UNKNOWN;
        if (strips.isMissing(strip)) return NULL;
        return strips.remove(strip);
    }

    public long latest() {
        return strips.latest;
    }

    public int count(int what) {
        switch (what) {
            case 0: return now.pictures;
            case 1: return now.things;
            case 2: return now.pieces.many;
            case 3: return rulesNow().pairsBefore();
            case 4: return now.sun.noon;
            case 5: return now.sun.grows;
            case 6: return now.sun.low;
            case 7: return strips.allPlaces();
            case 8: return history.many;
            case 9: return text.many;
            default: return OUTSIDE;
        }
    }

    // ---- what is found out once and kept until a piece or the album becomes other

    private void forgetFindings() {
        rules.known = false;
        orders.known = false;
        hours.known = false;
        doubts.forget();
    }

    private Rules rulesNow() {
        if (!rules.known) rules.read(now);
        return rules;
    }

    private Orders ordersNow() {
        if (!orders.known) orders.seek(rulesNow());
        return orders;
    }

    private Hours hoursNow() {
        if (!hours.known) hours.seek(rulesNow());
        return hours;
    }

    // ---- small helps

    private boolean areTwoPictures(int one, int other) {
        return now.hasPicture(one) && now.hasPicture(other) && one != other;
    }

    private static int mostSlack(int matter) {
        if (matter == POINT) return 9;
        return matter == LENGTH ? 99 : 0;
    }

    private static boolean hasBit(int set, int picture) {
        return (set >> picture & 1) != 0;
    }

    private static int firstSlot(long slots) {
        return slots == 0 ? NONE : Long.numberOfTrailingZeros(slots);
    }

    private static int lastSlot(long slots) {
        return slots == 0 ? NONE : 63 - Long.numberOfLeadingZeros(slots);
    }

    /** A word is held as one number, five bits a letter: so two words are alike if their numbers are. */
    private static int lengthened(int word, int letter) {
        return word << 5 | letter - 'a' + 1;
    }

    /** The letters that were written and are not yet done. */
    private static final class Text {
        static final int END = 0, WORD = 1, NUMBER = 2, SIGN = 3;

        int many;
        private final int[] letters = new int[LETTERS];

        boolean add(int letter) {
            if (many < 0 || many >= LETTERS) return false;
            letters[many] = letter;
            many++;
            return true;
        }

        int clear() {
            int had = many;
            many = 0;
            return had;
        }

        int letterAt(int at) {
            return at >= 0 && at < many && at < LETTERS ? letters[at] : NONE;
        }

        /** The kind of token that a letter belongs to; no letter is the end of the text. */
        static int kindOf(int letter) {
            if (letter == NONE) return END;
            if (letter >= 'a' && letter <= 'z') return WORD;
            return letter >= '0' && letter <= '9' ? NUMBER : SIGN;
        }

        /** All letters but the blanks as one word; NONE if they are none. */
        int wholeWord() {
            int word = 0;
            int length = 0;
            for (int at = 0; at < many; at++) {
                int letter = letterAt(at);
                if (letter == BLANK) continue;
                if (kindOf(letter) != WORD || length == WORD_LETTERS) return NONE;
                word = lengthened(word, letter);
                length++;
            }
            return length == 0 ? NONE : word;
        }
    }

    /** Reads the text, token by token, onto a draft of the album, which shows what may stand further on. */
    private static final class Reader {
        private static final int MOST_DIGITS = 3;

        final Album draft = new Album();
        int clauses;
        private final Text text;
        private int kind;
        private int start;
        private int end;
        private int number;

        Reader(Text text) {
            this.text = text;
        }

        /** The place of the first fault; NONE, and the draft is the album behind the text. */
        int read(Album album) {
            draft.copyFrom(album);
            clauses = 0;
            end = 0;
            step();
            for (int i = 0; i < CLAUSES; i++) {
                if (!readClause()) return start;
                clauses++;
                if (kind == Text.END) return NONE;
                if (kind != Text.SIGN || text.letterAt(start) != ';') return start;
                if (clauses < CLAUSES) step();
            }
            return start;
        }

        private void step() {
            start = end;
            for (int i = 0; i < LETTERS && text.letterAt(start) == BLANK; i++) start++;
            kind = Text.kindOf(text.letterAt(start));
            end = kind == Text.END ? start : start + 1;
            if (kind != Text.WORD && kind != Text.NUMBER) return;
            for (int i = 0; i < LETTERS && Text.kindOf(text.letterAt(end)) == kind; i++) end++;
        }

        private boolean readClause() {
            if (is("album")) return readAlbum();
            if (is("sun")) return readSun();
            if (is("picture")) return readPicture();
            if (is("thing")) return readThing();
            if (is("point")) return readShadow(POINT);
            if (is("long")) return readShadow(LENGTH);
            return is("see") && readSight();
        }

        private boolean is(String word) {
            if (kind != Text.WORD || end - start != word.length()) return false;
            for (int i = 0; i < word.length(); i++) {
                if (text.letterAt(start + i) != word.charAt(i)) return false;
            }
            return true;
        }

        private boolean readAlbum() {
            draft.clear();
            step();
            return true;
        }

        private boolean readSun() {
            step();
            if (!readNumber(18, 30)) return false;
            int noon = number;
            if (!readNumber(1, 9)) return false;
            int grows = number;
            if (!readNumber(1, 40)) return false;
            draft.sun.become(noon, grows, number);
            return true;
        }

        private boolean readPicture() {
            if (draft.pictures >= PICTURES) return false;
            step();
            if (kind != Text.WORD || end - start > WORD_LETTERS) return false;
            int word = 0;
            for (int at = start; at < end; at++) word = lengthened(word, text.letterAt(at));
            if (draft.pictureNamed(word) != NONE) return false;
            draft.addPicture(word);
            step();
            return true;
        }

        private boolean readThing() {
            if (draft.things >= THINGS) return false;
            step();
            int thingKind = thingKindNamed();
            if (thingKind == NONE) return false;
            draft.addThing(thingKind);
            step();
            return true;
        }

        private int thingKindNamed() {
            if (is("comes")) return COMES;
            if (is("goes")) return GOES;
            if (is("passes")) return PASSES;
            return is("wears") ? WEARS : NONE;
        }

        private boolean readShadow(int matter) {
            step();
            if (!readNumber(0, draft.pictures - 1)) return false;
            int picture = number;
            if (!readNumber(0, draft.mostValue(matter))) return false;
            int value = number;
            if (!readNumber(0, mostSlack(matter))) return false;
            draft.pieces.put(picture, matter, value, number);
            return true;
        }

        private boolean readSight() {
            step();
            if (!readNumber(0, draft.pictures - 1)) return false;
            int picture = number;
            if (!readNumber(0, draft.things - 1)) return false;
            int matter = FIRST_THING + number;
            if (!readNumber(0, draft.mostValue(matter))) return false;
            draft.pieces.put(picture, matter, number, 0);
            return true;
        }

        private boolean readNumber(int least, int most) {
            if (kind != Text.NUMBER || end - start > MOST_DIGITS) return false;
            number = 0;
            for (int at = start; at < end; at++) number = 10 * number + text.letterAt(at) - '0';
            if (number < least || number > most) return false;
            step();
            return true;
        }
    }

    /** How the shadows point and how long they are at each slot of the day. */
    private static final class Sun {
        private static final int HALF_DAY = 12;

        int noon;
        int grows;
        int low;

        Sun() {
            clear();
        }

        void clear() {
            become(24, 4, 5);
        }

        void become(int newNoon, int newGrows, int newLow) {
            noon = newNoon;
            grows = newGrows;
            low = newLow;
        }

        boolean isUp(int slot) {
            return Math.abs(slot - noon) <= HALF_DAY;
        }

        int pointAt(int slot) {
            return isUp(slot) ? slot - noon + HALF_DAY : NONE;
        }

        int lengthAt(int slot) {
            int far = slot - noon;
            return isUp(slot) ? low + grows * far * far / 4 : NONE;
        }
    }

    /** The pieces by picture and matter; their keys stand in the order in which they came. */
    private static final class Pieces {
        int many;
        private final int[] keys = new int[KEYS];
        private final int[] numbers = new int[KEYS];
        private final int[] values = new int[KEYS];
        private final int[] slacks = new int[KEYS];

        Pieces() {
            clear();
        }

        void clear() {
            many = 0;
            Arrays.fill(numbers, NONE);
            Arrays.fill(values, NONE);
            Arrays.fill(slacks, NONE);
        }

        void copyFrom(Pieces other) {
            many = other.many;
            System.arraycopy(other.keys, 0, keys, 0, KEYS);
            System.arraycopy(other.numbers, 0, numbers, 0, KEYS);
            System.arraycopy(other.values, 0, values, 0, KEYS);
            System.arraycopy(other.slacks, 0, slacks, 0, KEYS);
        }

        private static boolean isKey(int picture, int matter) {
            return picture >= 0 && picture < PICTURES && matter >= 0 && matter < MATTERS;
        }

        int numberOf(int picture, int matter) {
            return isKey(picture, matter) ? numbers[picture * MATTERS + matter] : NONE;
        }

        int valueOf(int picture, int matter) {
            return isKey(picture, matter) ? values[picture * MATTERS + matter] : NONE;
        }

        int slackOf(int picture, int matter) {
            return isKey(picture, matter) ? slacks[picture * MATTERS + matter] : NONE;
        }

        private int keyOf(int number) {
            return number >= 0 && number < many && number < KEYS ? keys[number] : NONE;
        }

        int pictureOf(int number) {
            int key = keyOf(number);
            return key == NONE ? NONE : key / MATTERS;
        }

        int matterOf(int number) {
            int key = keyOf(number);
            return key == NONE ? NONE : key % MATTERS;
        }

        int manyOf(int picture) {
            int found = 0;
            for (int matter = 0; matter < MATTERS; matter++) {
                if (numberOf(picture, matter) != NONE) found++;
            }
            return found;
        }

        void put(int picture, int matter, int value, int slack) {
            if (!isKey(picture, matter)) return;
            int key = picture * MATTERS + matter;
            values[key] = value;
            slacks[key] = slack;
            if (numbers[key] != NONE || many < 0 || many >= KEYS) return;
            numbers[key] = many;
            keys[many] = key;
            many++;
        }

        void remove(int picture, int matter) {
            int number = numberOf(picture, matter);
            if (number < 0 || number >= many) return;
            int key = picture * MATTERS + matter;
            numbers[key] = NONE;
            values[key] = NONE;
            slacks[key] = NONE;
            many--;
            for (int i = number; i < many && i < KEYS - 1; i++) {
                int later = keys[i + 1];
                keys[i] = later;
                if (later >= 0 && later < KEYS) numbers[later] = i;
            }
        }
    }

    /** What is told: the sun, the pictures' words, the things' kinds, the pieces. */
    private static final class Album {
        int pictures;
        int things;
        final Sun sun = new Sun();
        final Pieces pieces = new Pieces();
        private final int[] words = new int[PICTURES];
        private final int[] kinds = new int[THINGS];

        void clear() {
            pictures = 0;
            things = 0;
            sun.clear();
            pieces.clear();
        }

        void copyFrom(Album other) {
            pictures = other.pictures;
            things = other.things;
            sun.become(other.sun.noon, other.sun.grows, other.sun.low);
            pieces.copyFrom(other.pieces);
            System.arraycopy(other.words, 0, words, 0, PICTURES);
            System.arraycopy(other.kinds, 0, kinds, 0, THINGS);
        }

        void addPicture(int word) {
            if (pictures < 0 || pictures >= PICTURES) return;
            words[pictures] = word;
            pictures++;
        }

        void addThing(int kind) {
            if (things < 0 || things >= THINGS) return;
            kinds[things] = kind;
            things++;
        }

        boolean hasPicture(int picture) {
            return picture >= 0 && picture < pictures;
        }

        boolean hasThing(int thing) {
            return thing >= 0 && thing < things;
        }

        boolean hasMatter(int matter) {
            return matter >= 0 && matter < FIRST_THING + things;
        }

        int kindOf(int thing) {
            return hasThing(thing) && thing < THINGS ? kinds[thing] : NONE;
        }

        int mostValue(int matter) {
            if (matter == POINT) return 24;
            if (matter == LENGTH) return 999;
            return kindOf(matter - FIRST_THING) == WEARS ? 9 : 1;
        }

        boolean takesValue(int matter, int value) {
            return hasMatter(matter) && value >= 0 && value <= mostValue(matter);
        }

        int pictureNamed(int word) {
            for (int picture = 0; picture < pictures && picture < PICTURES; picture++) {
                if (words[picture] == word) return picture;
            }
            return NONE;
        }

        int wordLetters(int picture) {
            if (!hasPicture(picture) || picture >= PICTURES) return NONE;
            int letters = 0;
            for (int i = 0; i < WORD_LETTERS; i++) {
                if (words[picture] >> 5 * i != 0) letters++;
            }
            return letters;
        }

        /** Bits of the pictures of which there is a piece of the thing by no less than a value. */
        int picturesSeeing(int thing, int leastValue) {
            int set = 0;
            for (int picture = 0; picture < pictures; picture++) {
                if (pieces.valueOf(picture, FIRST_THING + thing) >= leastValue) set |= 1 << picture;
            }
            return set;
        }
    }

    /** The pieces as they were ahead of the latest deeds, and as they were kept. */
    private static final class History {
        int many;
        private int first;
        private final Pieces[] pasts = new Pieces[MOST_UNDONE];
        private final Pieces[] kept = new Pieces[KEPT];
        private int keptSet;

        History() {
            for (int i = 0; i < MOST_UNDONE; i++) pasts[i] = new Pieces();
            for (int k = 0; k < KEPT; k++) kept[k] = new Pieces();
        }

        void clear() {
            many = 0;
            keptSet = 0;
        }

        /** A ninth past takes the room of the oldest one. */
        void remember(Pieces pieces) {
            if (many == MOST_UNDONE) {
                first = (first + 1) % MOST_UNDONE;
                many--;
            }
            Pieces past = pastAt(many);
            if (past != null) past.copyFrom(pieces);
            many++;
        }

        private Pieces pastAt(int i) {
            int at = Math.floorMod(first + i, MOST_UNDONE);
            return at < MOST_UNDONE ? pasts[at] : null;
        }

        boolean restoreLatest(Pieces pieces) {
            if (many <= 0) return false;
            many--;
            Pieces past = pastAt(many);
            if (past != null) pieces.copyFrom(past);
            return true;
        }

        void store(int k, Pieces pieces) {
            if (k < 0 || k >= KEPT || kept[k] == null) return;
            kept[k].copyFrom(pieces);
            keptSet |= 1 << k;
        }

        boolean restoreKept(int k, Pieces pieces) {
            if (k < 0 || k >= KEPT || kept[k] == null || !hasBit(keptSet, k)) return false;
            pieces.copyFrom(kept[k]);
            many = 0;
            return true;
        }
    }

    /** What the pieces ask of an order: windows, who must be ahead of whom, what must not be torn apart. */
    private static final class Rules {
        private static final long ALL_SLOTS = (1L << SLOTS) - 1;

        boolean known;
        int pictures;
        private final long[] windows = new long[PICTURES];
        private final int[] ahead = new int[PICTURES];
        private final int[] earlier = new int[PICTURES];
        private final int[] there = new int[THINGS];
        private final int[] away = new int[THINGS];
        private final int[] seen = new int[PICTURES];

        void read(Album album) {
            pictures = Math.min(album.pictures, PICTURES);
            for (int picture = 0; picture < pictures; picture++) readWindow(album, album.pieces, picture);
            readThings(album, album.pieces);
            chainAhead();
            known = true;
        }

        void copyFrom(Rules other) {
            pictures = other.pictures;
            System.arraycopy(other.windows, 0, windows, 0, PICTURES);
            System.arraycopy(other.ahead, 0, ahead, 0, PICTURES);
            System.arraycopy(other.there, 0, there, 0, THINGS);
            System.arraycopy(other.away, 0, away, 0, THINGS);
        }

        /** Only what the pieces of that picture and matter can have changed is read again. */
        void readAgain(Album album, Pieces pieces, int picture, int matter) {
            if (matter < FIRST_THING) readWindow(album, pieces, picture);
            else readThings(album, pieces);
        }

        private void readWindow(Album album, Pieces pieces, int picture) {
            if (picture < 0 || picture >= PICTURES) return;
            int point = pieces.valueOf(picture, POINT);
            int pointSlack = pieces.slackOf(picture, POINT);
            int length = pieces.valueOf(picture, LENGTH);
            int lengthSlack = pieces.slackOf(picture, LENGTH);
            windows[picture] = ALL_SLOTS;
            if (pointSlack == NONE && lengthSlack == NONE) return;
            long window = 0;
            for (int slot = 0; slot < SLOTS; slot++) {
                boolean fits = album.sun.isUp(slot)
                        && isNear(album.sun.pointAt(slot), point, pointSlack)
                        && isNear(album.sun.lengthAt(slot), length, lengthSlack);
                if (fits) window |= 1L << slot;
            }
            windows[picture] = window;
        }

        /** Where there is no piece, there is no slack, and all is near. */
        private static boolean isNear(int shown, int value, int slack) {
            return slack == NONE || Math.abs(shown - value) <= slack;
        }

        private void readThings(Album album, Pieces pieces) {
            Arrays.fill(ahead, 0);
            Arrays.fill(there, 0);
            Arrays.fill(away, 0);
            for (int thing = 0; thing < album.things; thing++) {
                for (int picture = 0; picture < PICTURES; picture++) {
                    seen[picture] = pieces.valueOf(picture, FIRST_THING + thing);
                }
                if (album.kindOf(thing) == WEARS) readWear();
                else readThing(thing, album.kindOf(thing));
            }
        }

        private void readThing(int thing, int kind) {
            if (thing < 0 || thing >= THINGS) return;
            int without = 0;
            int with = 0;
            for (int picture = 0; picture < PICTURES; picture++) {
                if (seen[picture] == 0) without |= 1 << picture;
                if (seen[picture] == 1) with |= 1 << picture;
            }
            if (kind == COMES) putAhead(without, with);
            if (kind == GOES) putAhead(with, without);
            if (kind != PASSES) return;
            there[thing] = with;
            away[thing] = without;
        }

        private void readWear() {
            for (int picture = 0; picture < PICTURES; picture++) {
                for (int other = 0; other < PICTURES; other++) {
                    boolean less = seen[other] != NONE && seen[other] < seen[picture];
                    if (less) ahead[picture] |= 1 << other;
                }
            }
        }

        /** Each picture of the one set is ahead of each of the other set. */
        void putAhead(int ones, int others) {
            for (int picture = 0; picture < pictures && picture < PICTURES; picture++) {
                if (hasBit(others, picture)) ahead[picture] |= ones;
            }
        }

        private void chainAhead() {
            System.arraycopy(ahead, 0, earlier, 0, PICTURES);
            for (int middle = 0; middle < PICTURES; middle++) {
                for (int last = 0; last < PICTURES; last++) {
                    if (hasBit(earlier[last], middle)) earlier[last] |= earlier[middle];
                }
            }
        }

        int everyone() {
            return (1 << pictures) - 1;
        }

        long windowOf(int picture) {
            return picture >= 0 && picture < PICTURES ? windows[picture] : 0;
        }

        /** Bits of the pictures that are before one, itself too, if it is. */
        int earlierThan(int picture) {
            return picture >= 0 && picture < PICTURES ? earlier[picture] : 0;
        }

        int pairsBefore() {
            int pairs = 0;
            for (int picture = 0; picture < pictures; picture++) {
                pairs += Integer.bitCount(earlierThan(picture) & ~(1 << picture));
            }
            return pairs;
        }

        /** Bits of those of a set, of which some are placed, that can be placed next; slots not looked at. */
        int nextOnes(int placed, int set) {
            int rest = set & ~placed;
            int next = rest;
            for (int thing = 0; thing < THINGS; thing++) {
                boolean begun = (there[thing] & set & placed) != 0;
                if (begun && (there[thing] & rest) != 0) next &= ~away[thing];
            }
            for (int picture = 0; picture < pictures && picture < PICTURES; picture++) {
                if ((ahead[picture] & rest) != 0) next &= ~(1 << picture);
            }
            return next;
        }

        /** The slot behind the first one from a slot on that a picture can be given; NONE. */
        int freeBehind(int picture, int from) {
            if (picture < 0 || picture >= PICTURES || from < 0 || from >= SLOTS) return NONE;
            long later = windows[picture] >>> from;
            return later == 0 ? NONE : from + Long.numberOfTrailingZeros(later) + 1;
        }
    }

    /**
     * How many orders there are. Each picture takes the first slot that it can, so what may still come
     * hangs on the set of those placed and the first free slot alone, not on the row that led there.
     */
    private static final class Orders {
        private static final int FREE = SLOTS + 1;

        boolean known;
        int total;
        private Rules rules;
        private final int[] next = new int[SETS];
        private final long[] reached = new long[SETS];
        private final int[] ways = new int[SETS * FREE];

        void seek(Rules asked) {
            rules = asked;
            int all = asked.everyone();
            Arrays.fill(reached, 0);
            reached[0] = 1;
            for (int placed = 0; placed < all; placed++) reachOn(asked, placed, all);
            for (int placed = all; placed >= 0; placed--) countOn(asked, placed, all);
            total = waysFrom(0, 0);
            known = true;
        }

        /** Which free slots (bits) there can be, once one more picture is placed. */
        private void reachOn(Rules asked, int placed, int all) {
            if (placed < 0 || placed >= SETS) return;
            next[placed] = reached[placed] == 0 ? 0 : asked.nextOnes(placed, all);
            for (int picture = 0; picture < PICTURES; picture++) {
                int then = placed | 1 << picture;
                if (hasBit(next[placed], picture) && then < SETS) {
                    reached[then] |= freeThen(asked, picture, reached[placed]);
                }
            }
        }

        private static long freeThen(Rules asked, int picture, long frees) {
            long then = 0;
            long rest = frees;
            int many = Long.bitCount(frees);
            for (int i = 0; i < many; i++) {
                int free = asked.freeBehind(picture, Long.numberOfTrailingZeros(rest));
                if (free != NONE) then |= 1L << free;
                rest &= rest - 1;
            }
            return then;
        }

        private void countOn(Rules asked, int placed, int all) {
            if (placed < 0 || placed >= SETS) return;
            long rest = reached[placed];
            int many = Long.bitCount(rest);
            for (int i = 0; i < many; i++) {
                int free = Long.numberOfTrailingZeros(rest);
                int sum = placed == all ? 1 : 0;
                for (int picture = 0; picture < PICTURES && placed != all; picture++) {
                    sum += waysBy(asked, placed, free, picture);
                }
                if (free < FREE) ways[placed * FREE + free] = sum;
                rest &= rest - 1;
            }
        }

        /** How many orders go on with a picture from there. */
        private int waysBy(Rules asked, int placed, int free, int picture) {
            if (placed < 0 || placed >= SETS || !hasBit(next[placed], picture)) return 0;
            int then = asked.freeBehind(picture, free);
            return then == NONE ? 0 : waysFrom(placed | 1 << picture, then);
        }

        private int waysFrom(int placed, int free) {
            boolean stands = placed >= 0 && placed < SETS && free >= 0 && free < FREE;
            return stands ? ways[placed * FREE + free] : 0;
        }

        int pictureAt(int k, int place) {
            if (rules == null || k < 0 || k >= total || place < 0 || place >= rules.pictures) return NONE;
            int placed = 0;
            int free = 0;
            int picture = NONE;
            int behind = k;
            for (int i = 0; i <= place && i < PICTURES; i++) {
                picture = 0;
                for (; picture < PICTURES - 1; picture++) {
                    int found = waysBy(rules, placed, free, picture);
                    if (behind < found) break;
                    behind -= found;
                }
                placed |= 1 << picture;
                free = rules.freeBehind(picture, free);
            }
            return picture;
        }
    }

    /** Which slots and places each picture can have in some order. */
    private static final class Hours {
        private static final int TOO_LATE = SLOTS + 1;

        boolean known;
        private final int[] least = new int[SETS];
        private final int[] most = new int[SETS];
        private final long[] left = new long[PICTURES];
        private final int[] places = new int[PICTURES];

        /** Whether there is some order of a set; the earliest end of each part of it is enough to know. */
        boolean canBe(Rules rules, int set) {
            if (set < 0 || set >= SETS) return false;
            Arrays.fill(least, TOO_LATE);
            least[0] = 0;
            for (int placed = 0; placed < set; placed++) {
                if ((placed & ~set) != 0 || least[placed] == TOO_LATE) continue;
                int next = rules.nextOnes(placed, set);
                for (int picture = 0; picture < PICTURES; picture++) {
                    if (!hasBit(next, picture)) continue;
                    int free = rules.freeBehind(picture, least[placed]);
                    int then = placed | 1 << picture;
                    if (free != NONE && then < SETS) least[then] = Math.min(least[then], free);
                }
            }
            return least[set] != TOO_LATE;
        }

        void seek(Rules rules) {
            int all = rules.everyone();
            Arrays.fill(left, 0);
            Arrays.fill(places, 0);
            known = true;
            if (!canBe(rules, all)) return;
            Arrays.fill(most, NONE);
            if (all < SETS) most[all] = SLOTS;
            for (int placed = Math.min(all, SETS) - 1; placed >= 0; placed--) {
                int next = rules.nextOnes(placed, all);
                for (int picture = 0; picture < PICTURES; picture++) {
                    if (hasBit(next, picture)) seekBetween(rules, placed, picture);
                }
            }
        }

        /** A picture behind those placed, ahead of all others: its slots lie from least on, below most. */
        private void seekBetween(Rules rules, int placed, int picture) {
            int then = placed | 1 << picture;
            if (placed < 0 || then >= SETS || picture >= PICTURES || most[then] == NONE) return;
            long below = rules.windowOf(picture) & (1L << most[then]) - 1;
            most[placed] = Math.max(most[placed], lastSlot(below));
            if (least[placed] == TOO_LATE) return;
            long between = below >>> least[placed] << least[placed];
            if (between == 0) return;
            left[picture] |= between;
            places[picture] |= 1 << Integer.bitCount(placed);
        }

        long leftTo(int picture) {
            return picture >= 0 && picture < PICTURES ? left[picture] : 0;
        }

        /** Bits of the places that a picture has in some order. */
        int placesOf(int picture) {
            return picture >= 0 && picture < PICTURES ? places[picture] : 0;
        }
    }

    /** What cannot be together, and what other pieces would leave: tried out on a copy of the rules. */
    private static final class Doubts {
        int looseMany;
        int askedFor;
        int askWorth;
        private final int[] looseNumbers = new int[KEYS];
        private int knot;
        private boolean knotKnown;
        private boolean looseKnown;
        private boolean askKnown;
        private final Pieces trial = new Pieces();
        private final Rules guess = new Rules();
        private final Orders orders = new Orders();
        private final Hours hours = new Hours();

        void forget() {
            knotKnown = false;
            looseKnown = false;
            askKnown = false;
        }

        int knotOf(Rules rules) {
            if (!knotKnown) knot = seekKnot(rules);
            knotKnown = true;
            return knot;
        }

        private int seekKnot(Rules rules) {
            int all = rules.everyone();
            if (hours.canBe(rules, all)) return NONE;
            for (int size = 1; size <= PICTURES; size++) {
                for (int set = 1; set <= all; set++) {
                    if (Integer.bitCount(set) == size && !hours.canBe(rules, set)) return set;
                }
            }
            return NONE;
        }

        void seekLoose(Album album, Rules rules) {
            if (looseKnown) return;
            looseKnown = true;
            looseMany = 0;
            if (hours.canBe(rules, rules.everyone())) return;
            for (int number = 0; number < album.pieces.many && looseMany < KEYS; number++) {
                if (!isLoose(album, rules, number)) continue;
                looseNumbers[looseMany] = number;
                looseMany++;
            }
        }

        private boolean isLoose(Album album, Rules rules, int number) {
            int picture = album.pieces.pictureOf(number);
            int matter = album.pieces.matterOf(number);
            trial.copyFrom(album.pieces);
            trial.remove(picture, matter);
            guess.copyFrom(rules);
            guess.readAgain(album, trial, picture, matter);
            return hours.canBe(guess, guess.everyone());
        }

        int looseNumber(int k) {
            return k >= 0 && k < looseMany && k < KEYS ? looseNumbers[k] : NONE;
        }

        int ordersWithPiece(Album album, Rules rules, int picture, int matter, int value) {
            trial.copyFrom(album.pieces);
            trial.put(picture, matter, value, 0);
            guess.copyFrom(rules);
            guess.readAgain(album, trial, picture, matter);
            orders.seek(guess);
            return orders.total;
        }

        int ordersWithAhead(Rules rules, int one, int other) {
            guess.copyFrom(rules);
            guess.putAhead(1 << one, 1 << other);
            orders.seek(guess);
            return orders.total;
        }

        void seekAsk(Album album, Rules rules, int total) {
            if (askKnown) return;
            askKnown = true;
            askedFor = NONE;
            askWorth = NONE;
            int toBeat = total;
            for (int picture = 0; picture < album.pictures; picture++) {
                for (int thing = 0; thing < album.things; thing++) {
                    if (!canNarrow(album, picture, thing)) continue;
                    int matter = FIRST_THING + thing;
                    int worth = ordersWithPiece(album, rules, picture, matter, 0);
                    // no better by 0 already: what it is by 1 cannot help
                    if (worth >= toBeat) continue;
                    worth = Math.max(worth, ordersWithPiece(album, rules, picture, matter, 1));
                    if (worth >= toBeat) continue;
                    toBeat = worth;
                    askWorth = worth;
                    askedFor = 10 * picture + matter;
                }
            }
        }

        /** By one of its two values a piece asks nothing more, unless both values of its thing were told already. */
        private static boolean canNarrow(Album album, int picture, int thing) {
            if (album.kindOf(thing) == WEARS) return false;
            int told = album.picturesSeeing(thing, 0);
            int there = album.picturesSeeing(thing, 1);
            return !hasBit(told, picture) && there != 0 && there != told;
        }
    }

    /** Rows of longs, or missing ones, and the latest long that was worked out. */
    private static final class Strips {
        static final int MOST_PLACES = 8;
        private static final int STRIPS = 3;

        long latest;
        private final int[] sizes = new int[STRIPS];
        private final long[] places = new long[STRIPS * MOST_PLACES];

        Strips() {
            clear();
        }

        void clear() {
            Arrays.fill(sizes, NONE);
        }

        boolean has(int strip) {
            return strip >= 0 && strip < STRIPS;
        }

        private int sizeOf(int strip) {
            return has(strip) ? sizes[strip] : NONE;
        }

        boolean isMissing(int strip) {
            return sizeOf(strip) == NONE;
        }

        boolean hasPlace(int strip, int i) {
            return i >= 0 && i < MOST_PLACES && i < sizeOf(strip);
        }

        void renew(int strip, int n) {
            if (!has(strip) || n < 0 || n > MOST_PLACES) return;
            sizes[strip] = n;
            for (int i = 0; i < n; i++) put(strip, i, 0);
        }

        void put(int strip, int i, long v) {
            if (hasPlace(strip, i)) places[strip * MOST_PLACES + i] = v;
        }

        long at(int strip, int i) {
            return hasPlace(strip, i) ? places[strip * MOST_PLACES + i] : 0;
        }

        void change(int strip, int i, int way, int j) {
            long old = at(strip, i);
            if (way == 0) latest = old & at(strip, j);
            else if (way == 1) latest = old | at(strip, j);
            else latest = way == 2 ? old << j : old >> j;
            put(strip, i, latest);
        }

        int addUp(int strip) {
            int size = sizeOf(strip);
            latest = 0;
            for (int i = 0; i < size; i++) latest += at(strip, i);
            return size;
        }

        int remove(int strip) {
            int had = sizeOf(strip);
            if (has(strip)) sizes[strip] = NONE;
            return had;
        }

        int allPlaces() {
            int all = 0;
            for (int strip = 0; strip < STRIPS; strip++) all += Math.max(0, sizeOf(strip));
            return all;
        }
    }
}
