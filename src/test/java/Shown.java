/** All that later calls can show of an object; asked of new ones with the same story, for one answers 512 calls only. */
final class Shown {
    /** What is done with a new object. */
    interface Story {
        void tell(AlbumHours x);
    }

    private interface Look {
        void at(AlbumHours x, StringBuilder all);
    }

    private static final Look[] LOOKS = {Shown::counts, Shown::pieces, Shown::orders, Shown::doubts, Shown::strips, Shown::undone,
        (x, all) -> kept(x, all, 0), (x, all) -> kept(x, all, 1), Shown::text, Shown::moreLetters};

    private Shown() { }

    static String behind(Story story) {
        StringBuilder all = new StringBuilder();
        for (Look look : LOOKS) {
            AlbumHours x = new AlbumHours();
            story.tell(x);
            look.at(x, all);
            all.append('\n');
        }
        return all.toString();
    }

    private static void add(StringBuilder all, long... answers) {
        for (long answer : answers) all.append(answer).append(' ');
    }

    private static void counts(AlbumHours x, StringBuilder all) {
        for (int what = 0; what < 10; what++) add(all, x.count(what));
        add(all, x.latest(), x.fault(), x.find());
        for (int p = 0; p < 7; p++) for (int what = 0; what < 6; what++) add(all, x.picture(p, what));
        for (int t = 0; t < 6; t++) for (int what = 0; what < 3; what++) add(all, x.thing(t, what));
        for (int slot = 5; slot < 44; slot += 6) add(all, x.sun(slot, 0), x.sun(slot, 1));
    }

    private static void pieces(AlbumHours x, StringBuilder all) {
        for (int p = 0; p < 7; p++) for (int m = 0; m < 8; m++) for (int what = 0; what < 3; what++) add(all, x.piece(p, m, what));
    }

    private static void orders(AlbumHours x, StringBuilder all) {
        add(all, x.orders());
        for (int k = 0; k < 5; k++) for (int i = 0; i < 8; i++) add(all, x.order(k, i));
        for (int p = 0; p < 7; p++) add(all, x.place(p, 0), x.place(p, 1), x.left(p, 0), x.left(p, 1), x.left(p, 2));
        for (int p = 0; p < 7; p++) for (int q = 0; q < 7; q++) add(all, x.before(p, q), x.often(p, q));
    }

    private static void doubts(AlbumHours x, StringBuilder all) {
        add(all, x.knot(0), x.knot(1), x.ask(0), x.ask(1));
        for (int k = -1; k < 8; k++) add(all, x.loose(k));
        for (int p = 0; p < 7; p++) for (int m = 0; m < 8; m++) add(all, x.would(p, m, 1));
    }

    private static void strips(AlbumHours x, StringBuilder all) {
        for (int s = 0; s < 3; s++) {
            for (int i = 0; i < 9; i++) add(all, x.bits(s, i), x.work(s, i, 2, 0), x.latest());
            add(all, x.sum(s), x.latest(), x.drop(s));
        }
    }

    private static void told(AlbumHours x, StringBuilder all, int many) {
        add(all, x.count(2));
        for (int k = 0; k < many; k++) add(all, x.told(k, 0), x.told(k, 1), x.piece(x.told(k, 0), x.told(k, 1), 0));
    }

    private static void undone(AlbumHours x, StringBuilder all) {
        for (int i = 0; i < 9; i++) {
            add(all, x.undo());
            told(x, all, 5);
        }
    }

    private static void kept(AlbumHours x, StringBuilder all, int k) {
        add(all, x.back(k), x.count(8));
        told(x, all, 40);
    }

    private static void text(AlbumHours x, StringBuilder all) {
        add(all, x.count(9), x.album(), x.count(9), x.fault(), x.find());
        for (int what = 0; what < 10; what++) add(all, x.count(what));
        told(x, all, 40);
        add(all, x.erase(), x.back(0), x.undo(), x.drop(0));
    }

    /** What a few letters more make of the text. */
    private static void moreLetters(AlbumHours x, StringBuilder all) {
        add(all, x.write(' '), x.write('1'), x.fault(), x.find(), x.album(), x.count(2), x.count(9), x.erase());
    }
}
