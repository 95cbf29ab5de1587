/** What the tests of the promises share: comparing an answer with what is due, and telling an album a text. */
final class Due {
    static final int NONE = -1, UNKNOWN = -2, OUTSIDE = -3, NOT = -4, FULL = -5, NULL = -11, INDEX = -12, SIZE = -13;

    private static int asked = 0;
    private static int wrong = 0;

    private Due() { }

    static void is(String what, long answered, long due) {
        asked++;
        if (answered == due) return;
        wrong++;
        System.out.println(what + " answered " + answered + ", due is " + due);
    }

    /** Ends a test's main method. */
    static void end() {
        System.out.println(wrong == 0 ? asked + " answers are as due" : wrong + " answers are not as due");
        if (wrong != 0) System.exit(1);
    }

    static void write(AlbumHours x, String text) {
        for (int i = 0; i < text.length(); i++) x.write(text.charAt(i));
    }

    /** Puts a text in place of what there is and does it. */
    static void tell(AlbumHours x, String text) {
        x.erase();
        write(x, text);
        int answered = x.album();
        if (answered < 1) is("album() of '" + text + "' with its fault at " + x.fault(), answered, 1);
    }

    /** A new object to which these texts were told; an empty one tells nothing. */
    static AlbumHours of(String... texts) {
        AlbumHours x = new AlbumHours();
        for (String text : texts) if (!text.isEmpty()) tell(x, text);
        return x;
    }

    /** Where the fault of a text is, behind another one that was told; on an object of its own, for one answers 512 calls only. */
    static void fault(String told, String text, int due) {
        AlbumHours x = of(told);
        write(x, text);
        is("fault() of '" + text + "' behind '" + told + "'", x.fault(), due);
        if (due != NONE) is("album() of '" + text + "' behind '" + told + "'", x.album(), NOT);
    }

    /** The row of numbers as one text, to be compared with what is due. */
    static void row(String what, String due, long... answers) {
        StringBuilder found = new StringBuilder();
        for (long answer : answers) found.append(found.length() == 0 ? "" : " ").append(answer);
        is(what + ", answers '" + found + "', due are '" + due + "': alike", found.toString().equals(due) ? 1 : 0, 1);
    }

    /** All orders as one text, 021 120 say. */
    static String orders(AlbumHours x) {
        StringBuilder all = new StringBuilder();
        for (int k = 0; k < x.orders(); k++) {
            if (k > 0) all.append(' ');
            for (int i = 0; i < x.count(0); i++) all.append(x.order(k, i));
        }
        return all.toString();
    }

    static void orders(AlbumHours x, String due) {
        String found = orders(x);
        is("orders '" + found + "', due are '" + due + "': alike", found.equals(due) ? 1 : 0, 1);
    }
}
