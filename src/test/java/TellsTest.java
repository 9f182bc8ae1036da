/** Promises 19 to 26: what is told. */
public final class TellsTest {
    private static final int LEAST = Integer.MIN_VALUE;
    private static final int GREATEST = Integer.MAX_VALUE;
    private static final Check check = new Check();

    public static void main(String[] args) {
        cellAndStored();
        page();
        entry();
        asOfBehindAPicture();
        asOfBehindTheCopy();
        asOfADroppedEntry();
        asOfADroppedOlderEntry();
        asOfADamagedEntry();
        asOfErrors();
        wouldLog();
        bestRenewed();
        count();
        check.end();
    }

    private static PictureLog withWay(int way) {
        PictureLog x = new PictureLog();
        x.setWay(way);
        return x;
    }

    private static void cellAndStored() {
        PictureLog x = withWay(0);
        x.fill(5, 11, 11, 9);
        check.due("cell(5, 11)", x.cell(5, 11), 9);
        check.due("cell(5, 10)", x.cell(5, 10), 0);
        check.due("stored(5, 11)", x.stored(5, 11), 0);
        x.flush();
        x.store(5);
        check.due("stored(5, 11)", x.stored(5, 11), 9);
        check.due("stored(5, 10)", x.stored(5, 10), 0);
        check.due("stored(4, 11)", x.stored(4, 11), 0);
        int[][] unknown = {{6, 0}, {-1, 0}, {0, 12}, {0, -1}, {LEAST, LEAST}, {GREATEST, GREATEST}, {0, LEAST},
            {GREATEST, 0}};
        for (int[] a : unknown) {
            check.due("cell", x.cell(a[0], a[1]), -1);
            check.due("stored", x.stored(a[0], a[1]), -1);
        }
    }

    private static void page() {
        PictureLog x = withWay(0);
        x.fill(2, 0, 3, 1);
        x.turn(3, 1);
        x.fill(2, 2, 5, 2);
        pageTells(x, 2, new int[] {21, 2, 0, 0, 0, 0, 8});
        x.renew(2);
        pageTells(x, 2, new int[] {8, 1, 3, 0, 0, 0, 8});
        x.turn(2, 5);
        pageTells(x, 2, new int[] {23, 2, 3, 0, 0, 0, 10});
        x.flush();
        x.damage(4);
        pageTells(x, 2, new int[] {23, 2, 3, 0, 0, 1, 10});
        x.crash();
        pageTells(x, 2, new int[] {23, 2, 3, 0, 1, 1, 8});
        x.store(2);
        pageTells(x, 2, new int[] {5, 0, -5, 5, 0, 0, 8});
        x.add(2, 11, 11, 1);
        pageTells(x, 2, new int[] {10, 1, 5, 5, 0, 0, 10});
        pageTells(x, 3, new int[] {20, 1, 1, 0, 0, 0, 4});
        check.due("page(6, 0)", x.page(6, 0), -1);
        check.due("page(-1, 0)", x.page(-1, 0), -1);
        check.due("page(6, 7)", x.page(6, 7), -1);
        check.due("page(0, 7)", x.page(0, 7), -2);
        check.due("page(0, -1)", x.page(0, -1), -2);
        check.due("page(0, least)", x.page(0, LEAST), -2);
        check.due("page(greatest, greatest)", x.page(GREATEST, GREATEST), -1);
    }

    private static void pageTells(PictureLog x, int page, int[] want) {
        for (int what = 0; what < want.length; what++) {
            check.due("page(" + page + ", " + what + ")", x.page(page, what), want[what]);
        }
    }

    private static void entry() {
        PictureLog x = withWay(0);
        x.fill(2, 0, 3, 1);
        x.add(3, 1, 1, 1);
        x.turn(4, 1);
        x.flush();
        Check.read(x, "5r4=123");
        x.renew(3);
        x.damage(1);
        entryTells(x, 0, new int[] {2, 1, 4, 8, 1, 1, 0});
        entryTells(x, 1, new int[] {3, 2, 4, 5, 1, 1, 1});
        entryTells(x, 2, new int[] {4, 3, 3, 15, 1, 1, 0});
        entryTells(x, 3, new int[] {5, 4, 6, 9, 1, 0, 0});
        entryTells(x, 4, new int[] {3, 0, 8, 8, 1, 0, 0});
        x.flush();
        entryTells(x, 1, new int[] {3, 2, 4, 5, 0, 1, 1});
        check.due("entry(5, 0)", x.entry(5, 0), -1);
        check.due("entry(-1, 0)", x.entry(-1, 0), -1);
        check.due("entry(5, 7)", x.entry(5, 7), -1);
        check.due("entry(4, 7)", x.entry(4, 7), -2);
        check.due("entry(4, -1)", x.entry(4, -1), -2);
        check.due("entry(4, greatest)", x.entry(4, GREATEST), -2);
        check.due("entry(least, 0)", x.entry(LEAST, 0), -1);
        check.due("entry(greatest, 0)", x.entry(GREATEST, 0), -1);
        x.store(2);
        x.trim();
        check.due("a dropped one", x.entry(0, 0), -1);
        check.due("a dropped one", x.entry(0, 9), -1);
        check.due("entry(least, 0)", x.entry(LEAST, 0), -1);
    }

    private static void entryTells(PictureLog x, int entry, int[] want) {
        for (int what = 0; what < want.length; what++) {
            check.due("entry(" + entry + ", " + what + ")", x.entry(entry, what), want[what]);
        }
    }

    private static void asOfTells(PictureLog x, int page, int entry, String want) {
        for (int cell = 0; cell < 12; cell++) {
            check.due("asOf(" + page + ", " + entry + ", " + cell + ")", x.asOf(page, entry, cell),
                    want.charAt(cell) - '0');
        }
    }

    private static void asOfBehindAPicture() {
        PictureLog x = withWay(0);
        x.fill(0, 0, 3, 1);
        x.fill(1, 0, 3, 9);
        x.renew(0);
        x.turn(0, 1);
        x.renew(0);
        x.fill(0, 0, 0, 5);
        asOfTells(x, 0, 0, "111100000000");
        asOfTells(x, 0, 1, "111100000000");
        asOfTells(x, 0, 2, "111100000000");
        asOfTells(x, 0, 3, "011110000000");
        asOfTells(x, 0, 4, "011110000000");
        asOfTells(x, 0, 5, "511110000000");
        asOfTells(x, 1, 0, "000000000000");
        asOfTells(x, 1, 1, "999900000000");
        x.flush();
        x.store(0);
        asOfTells(x, 0, 2, "111100000000");
        asOfTells(x, 0, 3, "011110000000");
        asOfTells(x, 0, 5, "511110000000");
        check.due("the copy is of a later entry", x.asOf(0, 1, 0), -4);
        asOfTells(x, 1, 1, "999900000000");
    }

    private static void asOfBehindTheCopy() {
        PictureLog x = withWay(0);
        x.fill(0, 0, 3, 1);
        x.fill(1, 0, 3, 9);
        x.flush();
        x.store(0);
        x.fill(0, 0, 0, 4);
        x.fill(0, 1, 1, 4);
        check.due("as of 2, behind 0", x.asOf(0, 0, 0), -4);
        asOfTells(x, 0, 1, "111100000000");
        asOfTells(x, 0, 2, "411100000000");
        asOfTells(x, 0, 3, "441100000000");
        asOfTells(x, 5, 0, "000000000000");
    }

    private static void asOfADroppedEntry() {
        PictureLog x = withWay(0);
        x.fill(0, 0, 3, 1);
        x.fill(1, 0, 3, 9);
        x.renew(0);
        x.flush();
        x.trim();
        check.due("the change ahead of the picture was dropped", x.asOf(0, 1, 0), -4);
        asOfTells(x, 0, 2, "111100000000");
        asOfTells(x, 1, 1, "999900000000");
        asOfTells(x, 2, 1, "000000000000");
        x.undo();
        asOfTells(x, 0, 1, "111100000000");
        x.trim();
        x.store(1);
        x.trim();
        check.due("held", x.count(1), 1);
        x.fill(1, 4, 5, 8);
        asOfTells(x, 1, 2, "999900000000");
        asOfTells(x, 1, 3, "999988000000");
        asOfTells(x, 0, 3, "111100000000");
    }

    private static void asOfADroppedOlderEntry() {
        PictureLog x = withWay(0);
        x.fill(0, 0, 3, 1);
        x.flush();
        x.store(0);
        check.due("the entry just ahead of the copy is dropped", x.trim(), 1);
        x.fill(1, 0, 0, 1);
        asOfTells(x, 0, 1, "111100000000");
        x.fill(0, 0, 0, 2);
        x.renew(0);
        x.flush();
        x.store(1);
        check.due("the entry just behind the copy is dropped", x.trim(), 2);
        x.fill(1, 1, 1, 1);
        asOfTells(x, 0, 3, "211100000000");
        asOfTells(x, 1, 3, "100000000000");
    }

    private static void asOfADamagedEntry() {
        PictureLog x = withWay(0);
        x.fill(0, 0, 3, 1);
        x.fill(0, 0, 0, 2);
        x.renew(0);
        x.fill(0, 0, 0, 3);
        x.fill(1, 0, 0, 3);
        x.damage(1);
        asOfTells(x, 0, 0, "111100000000");
        check.due("damaged", x.asOf(0, 1, 0), -4);
        check.due("damaged, another cell too", x.asOf(0, 1, 11), -4);
        asOfTells(x, 0, 2, "211100000000");
        x.damage(2);
        check.due("a damaged picture", x.asOf(0, 2, 0), -4);
        check.due("a damaged picture", x.asOf(0, 3, 0), -4);
        asOfTells(x, 0, 0, "111100000000");
        asOfTells(x, 1, 4, "300000000000");
        x.flush();
        x.store(0);
        x.damage(3);
        check.due("older than the copy, but behind a picture", x.asOf(0, 4, 0), -4);
    }

    private static void asOfErrors() {
        PictureLog x = withWay(0);
        check.due("asOf(0, 0, 0), empty", x.asOf(0, 0, 0), -1);
        x.fill(0, 0, 3, 1);
        int[][] unknown = {{6, 0, 0}, {-1, 0, 0}, {0, 1, 0}, {0, -1, 0}, {0, 0, 12}, {0, 0, -1},
            {LEAST, LEAST, LEAST}, {GREATEST, GREATEST, GREATEST}, {0, GREATEST, 0}, {0, LEAST, 0}};
        for (int[] a : unknown) {
            check.due("asOf, unknown", x.asOf(a[0], a[1], a[2]), -1);
        }
        x.damage(0);
        check.due("unknown ahead of not possible", x.asOf(0, 0, 12), -1);
        check.due("not possible", x.asOf(0, 0, 11), -4);
    }

    private static void wouldLog() {
        PictureLog x = new PictureLog();
        check.due("the sooner", x.wouldLog(0, 0), 0);
        check.due("the sooner", x.wouldLog(5, 9), 0);
        x.setWay(0);
        check.due("changes", x.wouldLog(0, 9), 1);
        x.setWay(1);
        check.due("pictures", x.wouldLog(0, 9), 0);
        check.due("wouldLog(6, 0)", x.wouldLog(6, 0), -1);
        check.due("wouldLog(-1, 10)", x.wouldLog(-1, 10), -1);
        check.due("wouldLog(0, 10)", x.wouldLog(0, 10), -2);
        check.due("wouldLog(0, -1)", x.wouldLog(0, -1), -2);
        check.due("wouldLog(greatest, least)", x.wouldLog(GREATEST, LEAST), -1);
        check.due("wouldLog(0, least)", x.wouldLog(0, LEAST), -2);
        x.setWay(0);
        x.setRoom(30);
        for (int i = 0; i < 10; i++) {
            x.turn(0, 1);
        }
        check.due("also without room", x.wouldLog(0, 1), 1);
    }

    private static void bestRenewed() {
        PictureLog x = withWay(0);
        check.due("of several the lowest", x.bestRenewed(), 0);
        x.fill(4, 0, 3, 1);
        check.due("13 and 6 is the most", x.bestRenewed(), 4);
        x.fill(2, 4, 7, 1);
        check.due("13 and 8 is less", x.bestRenewed(), 4);
        x.fill(1, 0, 3, 2);
        check.due("as much, but lower", x.bestRenewed(), 1);
        x.renew(1);
        check.due("renewed", x.bestRenewed(), 4);
        for (int page = 0; page < 6; page++) {
            x.renew(page);
        }
        check.due("none", x.bestRenewed(), -5);
        PictureLog y = withWay(0);
        Check.read(y, "0f0-0=1;1f0-0=1;2f0-0=1;3f0-0=1;4f0-0=1;5f0-0=1");
        y.flush();
        for (int page = 0; page < 6; page++) {
            y.store(page);
        }
        check.due("5 for the copy and 6 for the picture", y.bestRenewed(), -5);
    }

    private static void count() {
        PictureLog x = withWay(0);
        x.setRoom(200);
        x.fill(0, 0, 3, 1);
        x.fill(1, 0, 3, 1);
        x.flush();
        x.renew(0);
        x.turn(2, 2);
        x.type('q');
        countTells(x, new int[] {4, 4, 17, 200, 0, 4, 2, 6 + 13 + 20 + 15, 0, 1, 3, 0, 4, 1});
        x.damage(1);
        x.crash();
        countTells(x, new int[] {2, 2, 8, 200, 0, 2, 0, 13 + 13 + 20, 1, 1, 3, 1, 4, 1});
        x.store(0);
        x.trim();
        x.clearText();
        countTells(x, new int[] {2, 1, 4, 200, 0, 1, 0, 5 + 13 + 20, 1, 1, 3, 1, 4, 0});
        check.due("count(14)", x.count(14), -2);
        check.due("count(-1)", x.count(-1), -2);
        check.due("count(least)", x.count(LEAST), -2);
        check.due("count(greatest)", x.count(GREATEST), -2);
    }

    private static void countTells(PictureLog x, int[] want) {
        for (int what = 0; what < want.length; what++) {
            check.due("count(" + what + ")", x.count(what), want[what]);
        }
    }
}
