import java.util.function.Consumer;

/** Sentences of the promises 20, 22 and 24 to 26 that name a bound. */
public final class ForecastTest {
    private static final Check check = new Check();

    public static void main(String[] args) {
        wouldLogByTheWay();
        wouldLogAlike();
        wouldLogWithoutRoom();
        bestOfNone();
        bestByOne();
        bestOfSeveral();
        bestIsForecast();
        pageTells();
        entryTells();
        countBounds();
        check.end();
    }

    private static PictureLog plain() {
        return Told.made(Made.PLAIN);
    }

    private static void wouldLogByTheWay() {
        check.sentence("Returns 0 for a picture, 1 for the change");
        int[] want = {1, 0, 0};
        for (int way = 0; way <= 2; way++) {
            for (int page = 0; page < 6; page++) {
                for (int value = 0; value <= 9; value++) {
                    PictureLog x = new PictureLog();
                    x.setWay(way);
                    check.due("wouldLog(" + page + ", " + value + "), way " + way, x.wouldLog(page, value), want[way]);
                }
            }
        }
    }

    private static void wouldLogAlike() {
        check.sentence("Tells what would be logged for a fill of all cells of a page.");
        for (int way = 0; way <= 2; way++) {
            for (int page = 0; page < 6; page++) {
                PictureLog x = Told.made(Made.RICH.andThen(PictureLog::flush));
                x.setWay(way);
                int told = x.wouldLog(page, 4);
                check.due("the fill itself", x.fill(page, 0, 11, 4), told);
            }
        }
    }

    private static void wouldLogWithoutRoom() {
        check.sentence("Returns 0 for a picture, 1 for the change; UNKNOWN; BAD_VALUE.");
        PictureLog x = Told.made(Made.PACKED);
        check.due("wouldLog(0, 1) without room", x.wouldLog(0, 1), 1);
        x.setWay(1);
        check.due("wouldLog(0, 1) without room", x.wouldLog(0, 1), 0);
    }

    private static void bestOfNone() {
        check.sentence("NONE if none would be restored in less time");
        PictureLog x = plain();
        for (int page = 0; page < 6; page++) {
            check.due("bestRenewed()", x.bestRenewed(), page);
            x.renew(page);
        }
        check.due("all are restored from pictures alone", x.bestRenewed(), -5);
        PictureLog y = plain();
        Check.read(y, "0f0-0=1;1f0-0=1;2f0-0=1;3f0-0=1;4f0-0=1;5f0-0=1");
        y.flush();
        for (int page = 0; page < 6; page++) {
            y.store(page);
        }
        check.due("5 for the copy, 6 for a picture", y.bestRenewed(), -5);
        y.fill(3, 3, 3, 3);
        check.due("10 for a copy and a change, 10 for a picture", y.bestRenewed(), -5);
        y.fill(3, 4, 4, 3);
        check.due("15 for a copy and two changes, 10 for a picture", y.bestRenewed(), 3);
    }

    private static void bestByOne() {
        check.sentence("Tells the page that would be restored in the most time less, if it was renewed now");
        Consumer<PictureLog> made = Made.PLAIN.andThen(x -> {
            for (int page = 0; page < 6; page++) {
                x.renew(page);
            }
        });
        PictureLog x = Told.made(made);
        x.fill(4, 5, 5, 5);
        check.due("4 and 5 against 8", x.bestRenewed(), 4);
        x.fill(2, 5, 6, 5);
        check.due("4 and 6 against 8", x.bestRenewed(), 2);
        x.fill(5, 5, 7, 5);
        check.due("4 and 7 against 8", x.bestRenewed(), 5);
        x.fill(3, 5, 7, 5);
        check.due("as much, of a lower page", x.bestRenewed(), 3);
        x.renew(3);
        check.due("that one is renewed", x.bestRenewed(), 5);
        x.renew(5);
        check.due("that one is renewed", x.bestRenewed(), 2);
        x.renew(2);
        check.due("that one is renewed", x.bestRenewed(), 4);
        x.renew(4);
        check.due("all are", x.bestRenewed(), -5);
        PictureLog y = Told.made(Made.stored(0, "001000000000").andThen(z -> {
            for (int page = 1; page < 6; page++) {
                z.renew(page);
            }
        }));
        y.fill(0, 11, 11, 2);
        check.due("5 and 5 against 10", y.bestRenewed(), -5);
        y.undo();
        y.fill(0, 10, 11, 2);
        check.due("5 and 6 against 10", y.bestRenewed(), 0);
    }

    private static void bestOfSeveral() {
        check.sentence("of several the lowest");
        PictureLog x = plain();
        check.due("5 against 4, of all", x.bestRenewed(), 0);
        for (int page = 5; page >= 0; page--) {
            x.turn(page, 1);
            check.due("20 against 4, of the pages from " + page, x.bestRenewed(), page);
        }
        for (int page = 0; page < 5; page++) {
            x.renew(page);
            check.due("of the pages behind " + page, x.bestRenewed(), page + 1);
        }
    }

    private static void bestIsForecast() {
        check.sentence("if it was renewed now");
        PictureLog x = Told.made(Made.RICH);
        int best = x.bestRenewed();
        int time = x.count(7);
        int size = x.page(best, 6);
        int own = x.page(best, 0);
        x.renew(best);
        check.due("time of all pages then", x.count(7), time - own + size);
        check.due("time of the page then", x.page(best, 0), size);
        check.due("without room", Told.made(Made.PACKED).bestRenewed(), 2);
    }

    private static void pageTells() {
        check.sentence("what: 0 for the time to restore it, 1 for how many entries it needs, 2 for the first of them (NONE "
                + "if it needs none)");
        PictureLog x = Told.made(Made.RICH);
        check.tells("page(0, what)", x, (y, what) -> y.page(0, what), 10, 1, 6, 2, 0, 0, 10);
        check.tells("page(1, what)", x, (y, what) -> y.page(1, what), 13, 2, 2, 0, 1, 1, 8);
        check.tells("page(2, what)", x, (y, what) -> y.page(2, what), 20, 1, 4, 0, 0, 0, 4);
        check.tells("page(3, what)", x, (y, what) -> y.page(3, what), 10, 1, 5, 0, 0, 0, 8);
        check.tells("page(4, what)", x, (y, what) -> y.page(4, what), 5, 0, -5, 0, 0, 0, 4);
        check.range("page(1, n)", Made.RICH, 0, 6, -2, (y, n) -> y.page(1, n));
    }

    private static void entryTells() {
        check.sentence("what: 0 for its page, 1 for its kind, 2 for its size, 3 for its time, 4 for whether it is needed "
                + "(1, otherwise 0)");
        PictureLog x = Told.made(Made.RICH);
        check.tells("entry(0, what)", x, (y, what) -> y.entry(0, what), -1, -1, -1, -1, -1, -1, -1);
        check.tells("entry(1, what)", x, (y, what) -> y.entry(1, what), 1, 1, 4, 8, 0, 1, 0);
        check.tells("entry(2, what)", x, (y, what) -> y.entry(2, what), 1, 0, 8, 8, 1, 1, 0);
        check.tells("entry(3, what)", x, (y, what) -> y.entry(3, what), 1, 2, 4, 5, 1, 1, 1);
        check.tells("entry(4, what)", x, (y, what) -> y.entry(4, what), 2, 3, 3, 15, 1, 1, 0);
        check.tells("entry(5, what)", x, (y, what) -> y.entry(5, what), 3, 1, 4, 5, 1, 0, 0);
        check.tells("entry(6, what)", x, (y, what) -> y.entry(6, what), 0, 1, 4, 5, 1, 0, 0);
        check.tells("entry(7, what)", x, (y, what) -> y.entry(7, what), -1, -1, -1, -1, -1, -1, -1);
        check.range("entry(3, n)", Made.RICH, 0, 6, -2, (y, n) -> y.entry(3, n));
        check.range("entry(n, 0)", Made.RICH, 1, 6, -1, (y, n) -> y.entry(n, 0));
    }

    private static void countBounds() {
        check.sentence("what: 0 for the number of the next entry, 1 for the entries that the log holds");
        check.range("count(n)", Made.NEW, 0, 13, -2, PictureLog::count);
        check.range("count(n)", Made.RICH, 0, 13, -2, PictureLog::count);
        check.tells("count(what)", new PictureLog(), PictureLog::count, 0, 0, 0, 100, 2, 0, 0, 30, 0, 0, 0, 0, 0, 0);
        check.tells("count(what)", Told.made(Made.RICH), PictureLog::count, 7, 6, 27, 80, 0, 5, 2,
                10 + 13 + 20 + 10 + 5 + 5, 1, 1, 6, 1, 4, 6);
        check.tells("count(what)", Told.made(Made.PACKED), PictureLog::count, 10, 10, 30, 30, 0, 10, 10, 25 + 155, 0, 0, 10,
                0, 4, 0);
        check.tells("count(what)", Told.made(Made.stored(0, "000000000001")), PictureLog::count, 1, 0, 0, 100, 0, 0, 0, 30,
                0, 0, 1, 0, 4, 16);
    }
}
