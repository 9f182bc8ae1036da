import java.util.List;
import java.util.function.Consumer;
import java.util.function.ToIntFunction;

/** Each error and NONE of each call: which goes ahead of which, and that nothing is changed by them. */
public final class ErrorsTest {
    private static final int LEAST = Integer.MIN_VALUE;
    private static final int MOST = Integer.MAX_VALUE;
    private static final Check check = new Check();

    public static void main(String[] args) {
        constants();
        orderOfTheChecks();
        fillAndAdd();
        turn();
        renew();
        readOrders();
        logAndStore();
        flushAndTrim();
        damage();
        typeAndHistory();
        tellingWhatIsUnknown();
        tellingBadValues();
        tellingChangesNothing();
        noneIsNoError();
        check.end();
    }

    private static void constants() {
        check.sentence("Errors are reported by the constants below.");
        check.sentence("`UNKNOWN = -1`: There is no such page, cell or entry in the log.");
        check.due("UNKNOWN", PictureLog.UNKNOWN, -1);
        check.due("no such page", Told.made(Made.RICH).page(6, 0), PictureLog.UNKNOWN);
        check.due("no such cell", Told.made(Made.RICH).cell(0, 12), PictureLog.UNKNOWN);
        check.due("no such entry in the log", Told.made(Made.RICH).entry(0, 0), PictureLog.UNKNOWN);
        check.sentence("`BAD_VALUE = -2`: Another argument is out of range.");
        check.due("BAD_VALUE", PictureLog.BAD_VALUE, -2);
        check.due("another argument", Told.made(Made.RICH).page(0, 7), PictureLog.BAD_VALUE);
        check.sentence("`FULL = -3`: There is no room in the log, or in the text.");
        check.due("FULL", PictureLog.FULL, -3);
        check.due("in the log", Told.made(Made.PACKED).renew(0), PictureLog.FULL);
        check.due("in the text", Told.made(Made.typed(Made.NEW, "p".repeat(60))).type('p'), PictureLog.FULL);
        check.sentence("`NOT_POSSIBLE = -4`: This is not possible.");
        check.due("NOT_POSSIBLE", PictureLog.NOT_POSSIBLE, -4);
        check.due("store(2)", Told.made(Made.PACKED).store(2), PictureLog.NOT_POSSIBLE);
        check.sentence("`NONE = -5`: There is no such thing; not an error.");
        check.due("NONE", PictureLog.NONE, -5);
        check.due("undo()", Told.made(Made.NEW).undo(), PictureLog.NONE);
    }

    /** One wrong argument more each time, from the last one to the first. */
    private static void orderOfTheChecks() {
        check.sentence("Where several errors can apply, the order of the @return line is the order of the checks.");
        check.refused("no room", Made.PACKED, x -> x.fill(0, 0, 0, 0), -3);
        check.refused("a bad value, no room", Made.PACKED, x -> x.fill(0, 0, 0, 10), -2);
        check.refused("to less than from, no room", Made.PACKED, x -> x.fill(0, 1, 0, 0), -2);
        check.refused("no cell, a bad value, no room", Made.PACKED, x -> x.fill(0, 1, -1, 10), -1);
        check.refused("no page, a bad value, no room", Made.PACKED, x -> x.turn(6, 12), -1);
        check.refused("a fault, no room", Made.typed(Made.PACKED, "2t1;"), PictureLog::readOrders, -104);
        check.refused("no page, not flushed", Made.PACKED, x -> x.store(6), -1);
        check.refused("no entry, a bad value", Made.PACKED, x -> x.entry(10, 7), -1);
        check.refused("no page, a bad value", Made.PACKED, x -> x.page(6, 7), -1);
        check.refused("no page, a bad value", Made.PACKED, x -> x.wouldLog(6, 10), -1);
        Consumer<PictureLog> damaged = Made.PACKED.andThen(x -> x.damage(0));
        check.refused("a damaged entry", damaged, x -> x.asOf(2, 0, 0), -4);
        check.refused("no cell, a damaged entry", damaged, x -> x.asOf(2, 0, 12), -1);
    }

    private static void fillAndAdd() {
        check.sentence("UNKNOWN (page, from or to); BAD_VALUE (also if to is less than from); FULL.");
        int[][] unknown = {{6, 0, 1, 2}, {-1, 0, 1, 2}, {LEAST, 0, 0, 1}, {MOST, 0, 0, 1}, {0, 12, 12, 2}, {0, -1, 1, 2},
            {0, 0, 12, 2}, {0, 3, -1, 2}, {0, 12, 11, 2}, {0, LEAST, MOST, 2}, {0, MOST, LEAST, 2}, {6, 3, 2, 10},
            {0, 12, 0, 10}, {0, 0, 12, 10}, {0, 0, -1, -1}, {6, 12, -1, 10}, {-1, 0, 0, LEAST}};
        int[][] bad = {{0, 3, 2, 2}, {0, 11, 0, 2}, {5, 1, 0, 2}, {0, 3, 2, 10}, {5, 0, 11, 10}, {0, 0, 0, -1},
            {0, 0, 0, LEAST}, {0, 0, 0, MOST}};
        for (Consumer<PictureLog> made : List.of(Made.RICH, Made.PACKED)) {
            for (int[] a : unknown) {
                refusedByBoth(made, a, -1);
            }
            for (int[] a : bad) {
                refusedByBoth(made, a, -2);
            }
            check.refused("add(0, 0, 0, 0)", made, x -> x.add(0, 0, 0, 0), -2);
            check.refused("add(6, 0, 0, 0)", made, x -> x.add(6, 0, 0, 0), -1);
        }
        check.refused("fill(0, 0, 1, 0)", Made.PACKED, x -> x.fill(0, 0, 1, 0), -3);
        refusedByBoth(Made.PACKED, new int[] {0, 0, 1, 9}, -3);
        refusedByBoth(Made.PACKED, new int[] {5, 0, 11, 1}, -3);
        check.due("fill(0, 0, 0, 0), with room", Told.made(Made.RICH).fill(0, 0, 0, 0), 1);
    }

    private static void refusedByBoth(Consumer<PictureLog> made, int[] a, int want) {
        String words = "(" + a[0] + ", " + a[1] + ", " + a[2] + ", " + a[3] + ")";
        check.refused("fill" + words, made, x -> x.fill(a[0], a[1], a[2], a[3]), want);
        check.refused("add" + words, made, x -> x.add(a[0], a[1], a[2], a[3]), want);
    }

    private static void turn() {
        check.sentence("Returns 0 if a picture is logged, 3 if the change is; UNKNOWN; BAD_VALUE; FULL.");
        for (Consumer<PictureLog> made : List.of(Made.RICH, Made.PACKED)) {
            for (int[] a : new int[][] {{6, 1}, {-1, 1}, {6, 0}, {-1, 12}, {LEAST, LEAST}, {MOST, MOST}}) {
                check.refused("turn(" + a[0] + ", " + a[1] + ")", made, x -> x.turn(a[0], a[1]), -1);
            }
            for (int by : new int[] {0, 12, -1, 13, LEAST, MOST}) {
                check.refused("turn(0, " + by + ")", made, x -> x.turn(0, by), -2);
            }
        }
        check.refused("turn(0, 1)", Made.PACKED, x -> x.turn(0, 1), -3);
        check.refused("turn(5, 11)", Made.PACKED, x -> x.turn(5, 11), -3);
    }

    private static void renew() {
        check.sentence("Returns the number of the entry; UNKNOWN; FULL.");
        for (Consumer<PictureLog> made : List.of(Made.RICH, Made.PACKED)) {
            for (int page : new int[] {6, -1, LEAST, MOST}) {
                check.refused("renew(" + page + ")", made, x -> x.renew(page), -1);
            }
        }
        check.refused("renew(0)", Made.PACKED, x -> x.renew(0), -3);
        check.due("renew(0)", Told.made(Made.RICH).renew(0), 7);
    }

    private static void readOrders() {
        check.sentence("-100 minus the fault of the text if it has one (which is an error); FULL if there is no room for "
                + "any of them when its turn comes.");
        for (Consumer<PictureLog> made : List.of(Made.NEW, Made.RICH, Made.PACKED, Made.TIGHT)) {
            check.refused("no text", Made.typed(made, ""), PictureLog::readOrders, -100);
            check.refused("a fault", Made.typed(made, "0t1;0r0=123456789012;6p"), PictureLog::readOrders, -121);
            check.refused("an early end", Made.typed(made, "0t1;0r0=123456789012;"), PictureLog::readOrders, -121);
        }
        check.refused("no room", Made.typed(Made.PACKED, "0t1"), PictureLog::readOrders, -3);
        check.refused("no room for a later one", Made.typed(Made.TIGHT, "0t1;0r0=123456789012"), PictureLog::readOrders,
                -3);
        check.refused("no room for one between", Made.typed(Made.TIGHT, "0t1;0r0=123456789012;0t1"),
                PictureLog::readOrders, -3);
    }

    private static void logAndStore() {
        check.sentence("Returns the previous one; BAD_VALUE; NONE if it is so already.");
        check.refused("setWay(0)", Made.RICH, x -> x.setWay(0), -5);
        check.refused("setWay(3)", Made.RICH, x -> x.setWay(3), -2);
        check.refused("setWay(-1)", Made.RICH, x -> x.setWay(-1), -2);
        check.sentence("Returns the previous one; BAD_VALUE; NOT_POSSIBLE if the log would hold more all the same; NONE "
                + "if it is so already.");
        check.refused("setRoom(80)", Made.RICH, x -> x.setRoom(80), -5);
        check.refused("setRoom(29)", Made.RICH, x -> x.setRoom(29), -2);
        check.refused("setRoom(301)", Made.RICH, x -> x.setRoom(301), -2);
        Consumer<PictureLog> much = Made.PLAIN.andThen(x -> {
            for (int i = 0; i < 11; i++) {
                x.turn(i % 6, 1);
            }
        });
        check.refused("setRoom(32)", much, x -> x.setRoom(32), -4);
        check.refused("setRoom(30)", much, x -> x.setRoom(30), -4);
        check.refused("setRoom(29), bad ahead of not possible", much, x -> x.setRoom(29), -2);
        check.sentence("UNKNOWN; NOT_POSSIBLE if any entry of it that the log holds is not flushed.");
        for (int page : new int[] {6, -1, LEAST, MOST}) {
            check.refused("store(" + page + ")", Made.RICH, x -> x.store(page), -1);
            check.refused("store(" + page + ")", Made.PACKED, x -> x.store(page), -1);
        }
        check.refused("store(0)", Made.RICH, x -> x.store(0), -4);
        check.refused("store(3)", Made.RICH, x -> x.store(3), -4);
        check.refused("store(2)", Made.PACKED, x -> x.store(2), -4);
    }

    private static void flushAndTrim() {
        check.sentence("NONE if all are already.");
        check.refused("flush()", Made.NEW, PictureLog::flush, -5);
        check.refused("flush()", Made.RICH.andThen(PictureLog::flush), PictureLog::flush, -5);
        check.sentence("Returns how many are dropped; NONE if none is.");
        check.refused("trim()", Made.NEW, PictureLog::trim, -5);
        check.refused("trim()", Made.PACKED, PictureLog::trim, -5);
        check.refused("trim()", Made.RICH.andThen(PictureLog::trim), PictureLog::trim, -5);
    }

    private static void damage() {
        check.sentence("UNKNOWN; NONE if it is damaged already.");
        for (int entry : new int[] {0, 7, -1, LEAST, MOST, LEAST + 1, MOST - 1, -6}) {
            check.refused("damage(" + entry + ")", Made.RICH, x -> x.damage(entry), -1);
        }
        for (int entry : new int[] {0, 1, -1, LEAST, MOST}) {
            check.refused("damage(" + entry + ")", Made.NEW, x -> x.damage(entry), -1);
        }
        check.refused("damage(3)", Made.RICH, x -> x.damage(3), -5);
    }

    private static void typeAndHistory() {
        check.sentence("FULL if it has 60 characters.");
        check.refused("type('p')", Made.typed(Made.RICH, "0p;".repeat(20)), x -> x.type('p'), -3);
        check.sentence("NONE if the history is empty.");
        check.refused("undo()", Made.NEW, PictureLog::undo, -5);
        check.refused("undo()", Made.typed(x -> x.keep(), "0p"), PictureLog::undo, -5);
        check.sentence("NONE if there is no snapshot.");
        check.refused("restore()", Made.NEW, PictureLog::restore, -5);
        check.refused("restore()", Made.typed(Made.PACKED, "0p"), PictureLog::restore, -5);
    }

    private static void tellingWhatIsUnknown() {
        check.sentence("Returns its value; UNKNOWN (page or cell).");
        int[][] places = {{6, 0}, {-1, 0}, {0, 12}, {0, -1}, {5, 12}, {6, 12}, {-1, -1}, {LEAST, LEAST}, {MOST, MOST},
            {0, LEAST}, {0, MOST}, {LEAST, 0}, {MOST, 0}};
        for (int[] a : places) {
            String words = "(" + a[0] + ", " + a[1] + ")";
            check.refused("cell" + words, Made.RICH, x -> x.cell(a[0], a[1]), -1);
            check.refused("stored" + words, Made.RICH, x -> x.stored(a[0], a[1]), -1);
        }
        check.sentence("Returns its value; UNKNOWN (page, entry or cell); NOT_POSSIBLE");
        int[][] unknown = {{6, 3, 0}, {-1, 3, 0}, {1, 0, 0}, {1, 7, 0}, {1, -1, 0}, {1, 3, 12}, {1, 3, -1},
            {LEAST, LEAST, LEAST}, {MOST, MOST, MOST}, {1, LEAST, 0}, {1, MOST, 0}, {1, 3, LEAST}, {1, 3, MOST}};
        for (int[] a : unknown) {
            String words = "asOf(" + a[0] + ", " + a[1] + ", " + a[2] + ")";
            check.refused(words, Made.RICH, x -> x.asOf(a[0], a[1], a[2]), -1);
        }
        check.refused("asOf(1, 3, 0)", Made.RICH, x -> x.asOf(1, 3, 0), -4);
        check.refused("asOf(1, 3, 11)", Made.RICH, x -> x.asOf(1, 3, 11), -4);
        check.refused("asOf(0, 0, 0), empty", Made.NEW, x -> x.asOf(0, 0, 0), -1);
    }

    private static void tellingBadValues() {
        check.sentence("Returns the number; UNKNOWN; BAD_VALUE.");
        for (int what : new int[] {7, -1, 8, LEAST, MOST}) {
            check.refused("page(0, " + what + ")", Made.RICH, x -> x.page(0, what), -2);
            check.refused("page(6, " + what + ")", Made.RICH, x -> x.page(6, what), -1);
            check.refused("page(-1, " + what + ")", Made.RICH, x -> x.page(-1, what), -1);
            check.refused("entry(1, " + what + ")", Made.RICH, x -> x.entry(1, what), -2);
            check.refused("entry(6, " + what + ")", Made.RICH, x -> x.entry(6, what), -2);
            check.refused("entry(0, " + what + ")", Made.RICH, x -> x.entry(0, what), -1);
            check.refused("entry(7, " + what + ")", Made.RICH, x -> x.entry(7, what), -1);
            check.refused("entry(0, " + what + "), empty", Made.NEW, x -> x.entry(0, what), -1);
        }
        for (int page : new int[] {6, -1, LEAST, MOST}) {
            check.refused("page(" + page + ", 0)", Made.RICH, x -> x.page(page, 0), -1);
        }
        for (int entry : new int[] {0, 7, -1, LEAST, MOST}) {
            check.refused("entry(" + entry + ", 0)", Made.RICH, x -> x.entry(entry, 0), -1);
        }
        check.sentence("Returns 0 for a picture, 1 for the change; UNKNOWN; BAD_VALUE.");
        for (int value : new int[] {10, -1, LEAST, MOST}) {
            check.refused("wouldLog(0, " + value + ")", Made.RICH, x -> x.wouldLog(0, value), -2);
            check.refused("wouldLog(6, " + value + ")", Made.RICH, x -> x.wouldLog(6, value), -1);
        }
        for (int page : new int[] {6, -1, LEAST, MOST}) {
            check.refused("wouldLog(" + page + ", 0)", Made.RICH, x -> x.wouldLog(page, 0), -1);
        }
        check.sentence("Returns the number; BAD_VALUE.");
        for (int what : new int[] {14, -1, 15, LEAST, MOST}) {
            check.refused("count(" + what + ")", Made.RICH, x -> x.count(what), -2);
        }
    }

    private static void tellingChangesNothing() {
        check.sentence("Nothing is promised beyond the answers and state changes described above");
        for (Consumer<PictureLog> made : List.of(Made.NEW, Made.RICH, Made.PACKED, Made.TIGHT)) {
            check.unchanged("cell(1, 0)", made, x -> x.cell(1, 0));
            check.unchanged("stored(0, 0)", made, x -> x.stored(0, 0));
            check.unchanged("wouldLog(1, 3)", made, x -> x.wouldLog(1, 3));
            check.unchanged("bestRenewed()", made, PictureLog::bestRenewed);
            for (int what = 0; what < 14; what++) {
                int number = what;
                check.unchanged("count(" + what + ")", made, x -> x.count(number));
                check.unchanged("page(1, " + what + ")", made, x -> x.page(1, number));
                check.unchanged("entry(2, " + what + ")", made, x -> x.entry(2, number));
                check.unchanged("asOf(1, " + what + ", 3)", made, x -> x.asOf(1, number, 3));
            }
        }
    }

    private static void noneIsNoError() {
        check.sentence("NONE is no error; it is returned only if no error applies.");
        none("bestRenewed()", x -> {
            for (int page = 0; page < 6; page++) {
                x.renew(page);
            }
        }, PictureLog::bestRenewed);
        none("page(0, 2)", Made.RICH.andThen(PictureLog::crash), x -> x.page(0, 2));
        none("page(5, 2)", Made.NEW, x -> x.page(5, 2));
        check.refused("page(6, 2)", Made.NEW, x -> x.page(6, 2), -1);
        check.refused("setRoom(100)", Made.NEW, x -> x.setRoom(100), -5);
    }

    private static void none(String call, Consumer<PictureLog> made, ToIntFunction<PictureLog> asked) {
        check.refused(call, made, asked, -5);
    }
}
