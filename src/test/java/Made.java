/** What several tests make: objects with sitters, rows, laws. */
final class Made {
    private Made() { }

    static SetAgain with(int... wantsAndHours) {
        SetAgain x = new SetAgain();
        for (int i = 0; i < wantsAndHours.length; i += 2) x.sitter(wantsAndHours[i], wantsAndHours[i + 1]);
        return x;
    }

    /** A shelf's row of bytes. */
    static void fill(SetAgain x, int shelf, int... v) {
        x.row(shelf, 0, v.length);
        for (int i = 0; i < v.length; i++) x.put(shelf, i, v[i]);
    }

    static int laws(SetAgain x, String text) {
        for (int i = 0; i < text.length(); i++) x.feed(text.charAt(i));
        return x.law();
    }

    /** Each of the parts at one setting. */
    static void setAll(SetAgain x, int v) {
        for (int part = 0; part < 3; part++) x.set(part, v);
    }

    static void mendAll(SetAgain x, int what, int v) {
        for (int part = 0; part < 3; part++) x.mend(part, what, v);
    }
}
