/** Rows of calls that many tests make. */
final class Desk {
    private Desk() {
    }

    /** Feeds a text to THE TAPE; how many bytes it has. */
    static int feed(HillBoxes x, String text) {
        int has = x.count(7);
        for (int i = 0; i < text.length(); i += 4) {
            int n = Math.min(4, text.length() - i);
            int v = 0;
            for (int k = 0; k < n; k++) {
                v |= text.charAt(i + k) << 8 * k;
            }
            has = x.feed(n, v);
        }
        return has;
    }

    static int rule(HillBoxes x, String text, int use, int day) {
        feed(x, text);
        return x.rule(use, day);
    }

    /** A ROW of a sort on a SHELF with these elements. */
    static void row(HillBoxes x, int shelf, int sort, int... elements) {
        x.row(shelf, sort, elements.length);
        for (int i = 0; i < elements.length; i++) {
            x.put(shelf, i, elements[i]);
        }
    }

    /** Tells a RIDDLE its fives from SHELF 5; how many were told. */
    static int riddle(HillBoxes x, int box, int... fives) {
        row(x, 5, 0, fives);
        return x.riddle(box, 5, 0, fives.length / 5);
    }

    /** Shows the PAPER of a BOX from SHELF 5; how many names. */
    static int paper(HillBoxes x, int box, int... names) {
        row(x, 5, 1, names);
        return x.paper(box, 5, 0, Math.max(1, names.length));
    }
}
