import java.util.List;
import java.util.function.Consumer;
import java.util.function.ToIntFunction;

/** "Nothing is promised beyond the answers and state changes described above": what else is told stays as it was. */
public final class NoMoreTest {
    private static final String COUNTS_OF_ENTRIES = "count\\((0|1|2|5|6|7|10|12)\\)";
    private static final Check check = new Check();

    public static void main(String[] args) {
        check.sentence("Nothing is promised beyond the answers and state changes described above");
        changes();
        pictures();
        orders();
        wayAndRoom();
        flush();
        store();
        trim();
        damage();
        crash();
        texts();
        history();
        check.end();
    }

    /** Checks that a call is no error, and that no other answers are changed by it than those of these forms. */
    private static void changesOnly(String call, Consumer<PictureLog> made, ToIntFunction<PictureLog> act,
            String... forms) {
        int answer = act.applyAsInt(Told.made(made));
        check.holds(call + " is done, but answered " + answer, answer >= 0);
        String allowed = String.join("|", forms);
        List<String> changed = Told.now(made).changed(Told.now(made.andThen(act::applyAsInt)));
        for (String told : changed) {
            check.holds(call + " changes " + told, told.matches(allowed));
        }
        for (String form : forms) {
            check.holds(call + " does not change " + form, changed.stream().anyMatch(told -> told.matches(form)));
        }
    }

    /** The history has room for one more act, so that the number of its states tells of it. */
    private static final Consumer<PictureLog> RICH = Made.RICH.andThen(PictureLog::undo);

    private static void changes() {
        changesOnly("fill(4, 2, 3, 5)", RICH, x -> x.fill(4, 2, 3, 5), "cell\\(4, [23]\\)", "page\\(4, [0126]\\)",
                COUNTS_OF_ENTRIES);
        changesOnly("add(4, 2, 3, 5)", RICH, x -> x.add(4, 2, 3, 5), "cell\\(4, [23]\\)", "page\\(4, [0126]\\)",
                COUNTS_OF_ENTRIES);
        changesOnly("turn(0, 3)", RICH, x -> x.turn(0, 3), "cell\\(0, [0-6]\\)", "page\\(0, [0126]\\)",
                COUNTS_OF_ENTRIES);
    }

    private static void pictures() {
        changesOnly("renew(2)", RICH, x -> x.renew(2), "page\\(2, [02]\\)", "bestRenewed\\(\\)",
                "count\\((0|1|2|5|6|7|9|12)\\)");
        changesOnly("renew(1), doubtful", RICH, x -> x.renew(1), "page\\(1, [01245]\\)",
                "count\\((0|1|2|5|6|7|8|9|12)\\)");
        changesOnly("fill(4, 2, 3, 5)", RICH.andThen(x -> x.setWay(1)), x -> x.fill(4, 2, 3, 5), "cell\\(4, [23]\\)",
                "page\\(4, [0126]\\)", "count\\((0|1|2|5|6|7|9)\\)");
    }

    private static void orders() {
        changesOnly("4t1;5p", RICH, PictureLog::readOrders, "page\\([45], [012]\\)", COUNTS_OF_ENTRIES, "count\\(9\\)");
    }

    private static void wayAndRoom() {
        changesOnly("setWay(1)", RICH, x -> x.setWay(1), "count\\((4|12)\\)", "wouldLog\\([0-5], 3\\)");
        changesOnly("setRoom(300)", RICH, x -> x.setRoom(300), "count\\((3|12)\\)");
        changesOnly("setRoom(30)", RICH, x -> x.setRoom(30), "count\\((3|12)\\)");
    }

    private static void flush() {
        changesOnly("flush()", RICH, PictureLog::flush, "count\\((6|12)\\)", "entry\\([56], 5\\)");
        changesOnly("flush()", RICH.andThen(x -> x.renew(1)), PictureLog::flush, "count\\((5|6)\\)",
                "entry\\([567], 5\\)", "entry\\([23], 4\\)");
    }

    private static void store() {
        changesOnly("store(1)", RICH, x -> x.store(1), "count\\((5|7|8|12)\\)", "stored\\(1, [2-5]\\)",
                "page\\(1, [0-5]\\)", "entry\\([23], 4\\)", "asOf\\(1, 1, [0-9]+\\)");
        changesOnly("store(4)", RICH, x -> x.store(4), "count\\(12\\)", "page\\(4, 3\\)", "asOf\\(4, [123], [0-9]+\\)");
    }

    private static void trim() {
        changesOnly("trim()", RICH, PictureLog::trim, "count\\((1|2|12)\\)");
        Consumer<PictureLog> made = Made.PLAIN.andThen(x -> {
            x.turn(0, 1);
            x.turn(1, 1);
            x.renew(0);
            x.flush();
        });
        changesOnly("trim()", made, PictureLog::trim, "count\\((1|2)\\)", "asOf\\(0, 1, [0-9]+\\)");
    }

    private static void damage() {
        changesOnly("damage(4)", RICH, x -> x.damage(4), "count\\(12\\)", "entry\\(4, 6\\)", "page\\(2, 5\\)",
                "asOf\\(2, [45], [0-9]+\\)");
        changesOnly("damage(1)", RICH, x -> x.damage(1), "count\\(12\\)", "entry\\(1, 6\\)", "asOf\\(1, 1, [0-9]+\\)");
    }

    private static void crash() {
        changesOnly("crash()", Made.RICH.andThen(PictureLog::undo).andThen(PictureLog::undo).andThen(PictureLog::undo),
                PictureLog::crash, "count\\((8|11|12)\\)", "cell\\(1, 0\\)", "page\\(1, [46]\\)");
        changesOnly("crash()", RICH, PictureLog::crash, "count\\((0|1|2|5|6|7|11|12)\\)", "cell\\(3, 1\\)",
                "page\\(3, [0126]\\)");
    }

    private static void texts() {
        changesOnly("type('x')", Made.RICH, x -> x.type('x'), "count\\(13\\)");
        changesOnly("clearText()", Made.RICH, PictureLog::clearText, "count\\(13\\)");
    }

    private static void history() {
        Told now = Told.now(Made.RICH);
        String other = now.difference(Told.now(Made.RICH.andThen(PictureLog::keep)));
        check.holds("keep() changes nothing that is told, but " + other, other == null);
        String back = now.difference(Told.now(Made.RICH.andThen(x -> x.undo()).andThen(x -> x.fill(0, 1, 1, 9))));
        check.holds("undo() and the act again, but " + back, back == null);
        Told kept = Told.now(Made.RICH.andThen(PictureLog::keep).andThen(x -> x.turn(5, 1)).andThen(PictureLog::restore));
        String restored = now.difference(kept);
        check.holds("restore() of the snapshot, but " + restored, restored == null);
    }
}
