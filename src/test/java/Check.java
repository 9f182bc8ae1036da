/** Counts the answers that are not the due ones, and tells them. */
final class Check {
    private int wrong;
    private int made;

    void due(String call, long got, long want) {
        made++;
        if (got != want) {
            wrong++;
            System.out.println(call + " answered " + got + ", due is " + want);
        }
    }

    void holds(String what, boolean truth) {
        made++;
        if (!truth) {
            wrong++;
            System.out.println("does not hold: " + what);
        }
    }

    /** Checks all cells of a page against a text of twelve digits. */
    void cells(String when, PictureLog x, int page, String want) {
        for (int cell = 0; cell < 12; cell++) {
            due(when + ": cell(" + page + ", " + cell + ")", x.cell(page, cell), want.charAt(cell) - '0');
        }
    }

    /** Checks that an answer is the due one and that the call changed nothing. */
    void refused(String call, PictureLog x, int[] before, int got, int want) {
        due(call, got, want);
        String other = Told.difference(before, Told.by(x));
        holds(call + " changes nothing, but: " + other, other == null);
    }

    void end() {
        System.out.println(made + " checks, " + wrong + " wrong");
        if (wrong != 0) {
            System.exit(1);
        }
    }

    static void type(PictureLog x, String text) {
        for (int i = 0; i < text.length(); i++) {
            x.type(text.charAt(i));
        }
    }

    static int read(PictureLog x, String text) {
        x.clearText();
        type(x, text);
        return x.readOrders();
    }
}
