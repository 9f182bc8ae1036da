import java.util.List;
import java.util.function.Consumer;
import java.util.function.ToIntFunction;

/** Promises 1 to 26, one after the other: what the document says of each, sentence by sentence, in its order. */
public final class PromisesTest {
    private static final Check check = new Check();

    public static void main(String[] args) {
        newObject();
        fill();
        fillAsWhicheverIsSooner();
        add();
        turn();
        renew();
        readOrders();
        readOrdersRefused();
        setWay();
        setRoom();
        flush();
        store();
        trim();
        damage();
        crash();
        type();
        clearText();
        undo();
        keep();
        restore();
        cell();
        page();
        stored();
        entry();
        asOf();
        asOfRefused();
        wouldLog();
        bestRenewed();
        count();
        check.end();
    }

    /** Checks the answer of an act, that it records one state, and that undo() takes all of it back. */
    private static void act(String call, Consumer<PictureLog> calls, ToIntFunction<PictureLog> asked, int want) {
        PictureLog x = Told.made(calls);
        int states = x.count(12);
        check.due(call, asked.applyAsInt(x), want);
        check.due("states behind " + call, x.count(12), Math.min(4, states + 1));
        Consumer<PictureLog> undone = calls.andThen(asked::applyAsInt).andThen(PictureLog::undo);
        List<String> changed = Told.now(calls).changed(Told.now(undone));
        if (states == 4) {
            changed.remove("count(12)");
        }
        check.holds("undo() takes back " + call + ", but for " + changed, changed.isEmpty());
    }

    /** Checks the answer of a call that is no act: it neither records a state nor changes one. */
    private static void noAct(String call, Consumer<PictureLog> calls, ToIntFunction<PictureLog> asked, int want) {
        check.due(call, asked.applyAsInt(Told.made(calls)), want);
        List<String> changed = Told.now(calls).changed(Told.now(calls.andThen(asked::applyAsInt)));
        changed.remove("count(13)");
        check.holds(call + " changes nothing but the text, but " + changed, changed.isEmpty());
    }

    private static void newObject() {
        check.sentence("Creates empty pages and an empty log.");
        check.tells("count", new PictureLog(), PictureLog::count, 0, 0, 0, 100, 2, 0, 0, 30, 0, 0, 0, 0, 0, 0);
        for (int page = 0; page < 6; page++) {
            PictureLog x = new PictureLog();
            int asked = page;
            check.tells("page " + page, x, (y, what) -> y.page(asked, what), 5, 0, -5, 0, 0, 0, 4);
            check.cells("new", x, page, "000000000000");
        }
        check.due("entry(0, 0)", new PictureLog().entry(0, 0), -1);
        check.due("undo()", new PictureLog().undo(), -5);
        check.due("restore()", new PictureLog().restore(), -5);
        PictureLog used = Told.made(Made.RICH);
        check.tells("count, beside another object", new PictureLog(), PictureLog::count, 0, 0, 0, 100, 2, 0, 0, 30);
        check.due("the other object", used.count(0), 7);
    }

    private static void fill() {
        check.sentence("Fills cells. This is an act.");
        act("fill(1, 2, 4, 7)", Made.PLAIN, x -> x.fill(1, 2, 4, 7), 1);
        PictureLog x = Told.made(Made.PLAIN);
        x.fill(1, 2, 4, 7);
        check.sentence("- `from`: the first cell - `to`: the last cell, not less than from - `value`: 0 to 9");
        check.cells("filled", x, 1, "007770000000");
        act("fill(5, 11, 11, 9)", Made.PLAIN, y -> y.fill(5, 11, 11, 9), 1);
        x.fill(1, 4, 4, 0);
        check.cells("filled again", x, 1, "007700000000");
        x.fill(1, 0, 11, 9);
        check.cells("all filled", x, 1, "999999999999");
        check.cells("another page", x, 0, "000000000000");
        check.sentence("UNKNOWN (page, from or to); BAD_VALUE (also if to is less than from); FULL.");
        check.refused("fill(6, 3, 2, 10)", Made.PACKED, y -> y.fill(6, 3, 2, 10), -1);
        check.refused("fill(0, 12, 2, 10)", Made.PACKED, y -> y.fill(0, 12, 2, 10), -1);
        check.refused("fill(0, 3, -1, 10)", Made.PACKED, y -> y.fill(0, 3, -1, 10), -1);
        check.refused("fill(0, 3, 2, 1)", Made.PACKED, y -> y.fill(0, 3, 2, 1), -2);
        check.refused("fill(0, 2, 3, 10)", Made.PACKED, y -> y.fill(0, 2, 3, 10), -2);
        check.refused("fill(0, 2, 3, -1)", Made.PACKED, y -> y.fill(0, 2, 3, -1), -2);
        check.refused("fill(0, 2, 3, 0)", Made.PACKED, y -> y.fill(0, 2, 3, 0), -3);
    }

    private static void fillAsWhicheverIsSooner() {
        check.sentence("Returns 0 if a picture is logged, 1 if the change is;");
        Consumer<PictureLog> manyRuns = Made.stored(0, "010101010101").andThen(x -> x.setWay(2));
        act("5 + 4 + 1 of 14", manyRuns, x -> x.fill(0, 0, 0, 5), 1);
        act("5 + 4 + 5 of 14", manyRuns, x -> x.fill(0, 0, 4, 5), 1);
        act("5 + 4 + 6 of 14", manyRuns, x -> x.fill(0, 0, 5, 5), 0);
        act("13 of 8", Made.NEW, x -> x.fill(0, 2, 5, 7), 0);
        act("always as pictures", manyRuns.andThen(x -> x.setWay(1)), x -> x.fill(0, 0, 0, 5), 0);
        act("as it is", manyRuns.andThen(x -> x.setWay(0)), x -> x.fill(0, 0, 5, 5), 1);
        PictureLog x = Told.made(manyRuns);
        x.fill(0, 0, 5, 5);
        check.due("the picture", x.entry(x.count(0) - 1, 1), 0);
        check.cells("as a picture", x, 0, "555555010101");
    }

    private static void add() {
        check.sentence("Adds an amount to cells. This is an act.");
        Consumer<PictureLog> counted = Made.stored(3, "012345678901");
        act("add(3, 0, 11, 1)", counted, x -> x.add(3, 0, 11, 1), 2);
        PictureLog x = Told.made(counted);
        x.add(3, 0, 11, 1);
        check.cells("all", x, 3, "123456789012");
        x.add(3, 8, 9, 9);
        check.cells("modulo 10", x, 3, "123456788912");
        x.add(3, 11, 11, 9);
        check.cells("the last", x, 3, "123456788911");
        check.sentence("- `amount`: 1 to 9 Returns 0 if a picture is logged, 2 if the change is;");
        act("as a picture", counted.andThen(y -> y.setWay(1)), y -> y.add(3, 0, 0, 1), 0);
        act("5 + 4 + 5 of 14", counted.andThen(y -> y.setWay(2)), y -> y.add(3, 0, 4, 1), 2);
        act("5 + 4 + 6 of 14", counted.andThen(y -> y.setWay(2)), y -> y.add(3, 0, 5, 1), 0);
        check.sentence("UNKNOWN (page, from or to); BAD_VALUE (also if to is less than from); FULL.");
        check.refused("add(-1, 3, 2, 0)", Made.PACKED, y -> y.add(-1, 3, 2, 0), -1);
        check.refused("add(0, -1, 2, 0)", Made.PACKED, y -> y.add(0, -1, 2, 0), -1);
        check.refused("add(0, 3, 12, 0)", Made.PACKED, y -> y.add(0, 3, 12, 0), -1);
        check.refused("add(0, 3, 2, 1)", Made.PACKED, y -> y.add(0, 3, 2, 1), -2);
        check.refused("add(0, 2, 3, 0)", Made.PACKED, y -> y.add(0, 2, 3, 0), -2);
        check.refused("add(0, 2, 3, 10)", Made.PACKED, y -> y.add(0, 2, 3, 10), -2);
        check.refused("add(0, 2, 3, 1)", Made.PACKED, y -> y.add(0, 2, 3, 1), -3);
    }

    private static void turn() {
        check.sentence("Turns a page. This is an act.");
        Consumer<PictureLog> row = Made.stored(4, "123450000006");
        act("turn(4, 1)", row, x -> x.turn(4, 1), 3);
        PictureLog x = Told.made(row);
        x.turn(4, 1);
        check.cells("by 1", x, 4, "612345000000");
        x.turn(4, 11);
        check.cells("by 11, back again", x, 4, "123450000006");
        x.turn(4, 7);
        check.cells("by 7", x, 4, "000000612345");
        check.sentence("- `by`: 1 to 11 Returns 0 if a picture is logged, 3 if the change is; UNKNOWN; BAD_VALUE; "
                + "FULL.");
        act("5 + 3 + 12 of 14", row.andThen(y -> y.setWay(2)), y -> y.turn(4, 1), 0);
        act("as a picture", row.andThen(y -> y.setWay(1)), y -> y.turn(4, 11), 0);
        check.refused("turn(6, 12)", Made.PACKED, y -> y.turn(6, 12), -1);
        check.refused("turn(0, 0)", Made.PACKED, y -> y.turn(0, 0), -2);
        check.refused("turn(0, 12)", Made.PACKED, y -> y.turn(0, 12), -2);
        check.refused("turn(0, 1)", Made.PACKED, y -> y.turn(0, 1), -3);
    }

    private static void renew() {
        check.sentence("Renews a page in the log: a picture of it is logged. This is an act.");
        Consumer<PictureLog> one = Made.PLAIN.andThen(x -> x.fill(3, 1, 2, 8));
        act("renew(3)", one, x -> x.renew(3), 1);
        PictureLog x = Told.made(one);
        x.renew(3);
        check.tells("entry 1", x, (y, what) -> y.entry(1, what), 3, 0, 8, 8, 1, 0, 0);
        check.cells("not changed", x, 3, "088000000000");
        check.cellsAsOf(x, 3, 1, "088000000000");
        check.sentence("Returns the number of the entry; UNKNOWN; FULL.");
        check.due("renew(0)", x.renew(0), 2);
        check.due("renew(0)", x.renew(0), 3);
        act("behind a dropped one", Made.RICH, y -> y.renew(5), 7);
        check.refused("renew(6)", Made.PACKED, y -> y.renew(6), -1);
        check.refused("renew(-1)", Made.PACKED, y -> y.renew(-1), -1);
        check.refused("renew(2)", Made.PACKED, y -> y.renew(2), -3);
    }

    private static void readOrders() {
        check.sentence("There are four kinds of changes of a page:");
        String text = "0f0-3=4;0a2-5+7;0t1;0r10=56;1p";
        Consumer<PictureLog> typed = Made.typed(Made.PLAIN, text);
        act("a fill, an add, a turn, a row, a renewal", typed, PictureLog::readOrders, 1);
        check.sentence("Does the orders of the text, which stays, one after the other; all of them, or none.");
        PictureLog x = Told.made(typed);
        x.readOrders();
        check.cells("one after the other", x, 0, "044117700056");
        for (int entry = 0; entry < 5; entry++) {
            check.due("the kind of " + entry, x.entry(entry, 1), (entry + 1) % 5);
            check.due("the page of " + entry, x.entry(entry, 0), entry / 4);
        }
        check.due("the text stays", x.count(13), text.length());
        check.due("once more", x.readOrders(), 1);
        check.due("all once more", x.count(0), 10);
        check.sentence("This is one act.");
        check.due("states: the way, and the orders twice", x.count(12), 3);
        x.undo();
        check.due("undone together", x.count(0), 5);
        check.sentence("Returns how many pictures are logged;");
        act("always as pictures", Made.typed(x2 -> x2.setWay(1), "0t1;1p;2f0-1=0"), PictureLog::readOrders, 3);
        act("always as they are", Made.typed(Made.PLAIN, "0t1;2f0-1=0"), PictureLog::readOrders, 0);
        act("whichever is sooner", Made.typed(Made.stored(0, "010101010101").andThen(y -> y.setWay(2)),
                "0r0=12;0r2=1;1p"), PictureLog::readOrders, 2);
    }

    private static void readOrdersRefused() {
        check.sentence("-100 minus the fault of the text if it has one (which is an error);");
        String[][] faults = {
            {"", "6p"},
            {"0x", "1P"},
            {"0t0", "0t;", "0p0p"},
            {"0t12", "0f01-2=3", "0p;;0p"},
            {"0f5-4=1", "0f5-1", "0f1-0", "0t1;", "0r5="},
            {"0a0-1=1", "0f0-1+1"},
            {"0f11-10=1", "0r11=12", "0a0-1+0"}};
        for (int place = 0; place < faults.length; place++) {
            for (String text : faults[place]) {
                check.refused(text, Made.typed(Made.PACKED, text), PictureLog::readOrders, -100 - place);
            }
        }
        check.sentence("FULL if there is no room for any of them when its turn comes.");
        check.refused("the first", Made.typed(Made.PACKED, "2t1"), PictureLog::readOrders, -3);
        check.refused("the third", Made.typed(Made.TIGHT, "0t1;0t1;0t1"), PictureLog::readOrders, -3);
        act("just room, as one is dropped", Made.typed(Made.TIGHT, "0t1;0t1"), PictureLog::readOrders, 0);
    }

    private static void setWay() {
        check.sentence("Sets the way to log. This is an act. - `way`: 0 to 2");
        act("setWay(0)", Made.NEW, x -> x.setWay(0), 2);
        act("setWay(1)", Made.NEW, x -> x.setWay(1), 2);
        check.sentence("Returns the previous one; BAD_VALUE; NONE if it is so already.");
        act("setWay(2)", Made.PLAIN, x -> x.setWay(2), 0);
        act("setWay(2)", x -> x.setWay(1), x -> x.setWay(2), 1);
        check.due("the way", Told.made(Made.PLAIN).count(4), 0);
        check.refused("setWay(-1)", Made.RICH, x -> x.setWay(-1), -2);
        check.refused("setWay(3)", Made.RICH, x -> x.setWay(3), -2);
        check.refused("setWay(0)", Made.RICH, x -> x.setWay(0), -5);
        check.refused("setWay(2)", Made.NEW, x -> x.setWay(2), -5);
    }

    private static void setRoom() {
        check.sentence("Sets the room;");
        act("setRoom(30)", Made.NEW, x -> x.setRoom(30), 100);
        act("setRoom(300)", Made.NEW, x -> x.setRoom(300), 100);
        check.sentence("if the log holds more, entries are dropped, the oldest one first, as long as it is flushed "
                + "and not needed, until the log does not hold more. This is an act.");
        Consumer<PictureLog> three = Made.PLAIN.andThen(x -> {
            for (int i = 0; i < 11; i++) {
                x.fill(i < 3 ? 0 : 1, i, i, 1);
            }
            x.flush();
            x.store(0);
        });
        int[] rooms = {44, 43, 41, 40, 39, 36, 35, 32};
        int[] held = {11, 10, 10, 10, 9, 9, 8, 8};
        for (int i = 0; i < rooms.length; i++) {
            int room = rooms[i];
            act("setRoom(" + room + ")", three, x -> x.setRoom(room), 100);
            PictureLog x = Told.made(three);
            x.setRoom(room);
            check.due("entries with the room of " + room, x.count(1), held[i]);
            check.due("the room", x.count(3), room);
        }
        check.sentence("Returns the previous one; BAD_VALUE; NOT_POSSIBLE if the log would hold more all the same; "
                + "NONE if it is so already.");
        check.refused("setRoom(31)", three, x -> x.setRoom(31), -4);
        check.refused("setRoom(29)", three, x -> x.setRoom(29), -2);
        check.refused("setRoom(301)", three, x -> x.setRoom(301), -2);
        check.refused("setRoom(100)", three, x -> x.setRoom(100), -5);
    }

    private static void flush() {
        check.sentence("Flushes the log up to its last entry. This is an act. Returns how many entries are flushed "
                + "by that; NONE if all are already.");
        act("flush()", Made.PACKED, PictureLog::flush, 10);
        act("flush()", Made.RICH, PictureLog::flush, 2);
        PictureLog x = Told.made(Made.RICH.andThen(PictureLog::flush));
        check.due("the last entry", x.entry(6, 5), 1);
        check.due("not flushed", x.count(6), 0);
        check.refused("flush()", Made.RICH.andThen(PictureLog::flush), PictureLog::flush, -5);
        check.refused("flush()", Made.NEW, PictureLog::flush, -5);
    }

    /** The entries 0 and 2 of the page 0, and 1 of the page 1; all are flushed. */
    private static final Consumer<PictureLog> FLUSHED = Made.PLAIN.andThen(x -> {
        x.fill(0, 0, 5, 3);
        x.turn(1, 1);
        x.fill(0, 5, 6, 4);
        x.flush();
    });

    private static void store() {
        check.sentence("Stores a page. This is an act.");
        act("store(0)", FLUSHED, x -> x.store(0), 2);
        check.sentence("Beside the log there is a store, which has of each page a copy, and tells as of which entry "
                + "it is: the number of the entry behind the last one that it knows (at first 0, all cells 0).");
        PictureLog x = Told.made(FLUSHED);
        check.due("the copy is of the entry", x.page(0, 3), 0);
        check.due("stored(0, 5)", x.stored(0, 5), 0);
        x.store(0);
        check.due("the copy is of the entry", x.page(0, 3), 3);
        check.due("stored(0, 5)", x.stored(0, 5), 4);
        check.due("another copy is of the entry", x.page(1, 3), 0);
        check.sentence("Returns how many entries of the log are needed less by that; UNKNOWN; NOT_POSSIBLE if any "
                + "entry of it that the log holds is not flushed.");
        act("store(1)", FLUSHED, y -> y.store(1), 1);
        act("store(2)", FLUSHED, y -> y.store(2), 0);
        act("store(0), with another page's entry", FLUSHED.andThen(y -> y.turn(1, 1)), y -> y.store(0), 2);
        check.refused("store(0)", FLUSHED.andThen(y -> y.renew(0)), y -> y.store(0), -4);
        check.refused("store(6)", FLUSHED.andThen(y -> y.renew(0)), y -> y.store(6), -1);
        check.refused("store(-1)", FLUSHED, y -> y.store(-1), -1);
    }

    private static void trim() {
        check.sentence("Drops entries from the log, the oldest one first, as long as the oldest one is flushed and "
                + "not needed. This is an act. Returns how many are dropped; NONE if none is.");
        Consumer<PictureLog> stored = FLUSHED.andThen(x -> x.store(0));
        act("trim(), as far as the entry 1", stored, PictureLog::trim, 1);
        act("trim(), all", stored.andThen(x -> x.store(1)), PictureLog::trim, 3);
        check.refused("trim(), the oldest is needed", FLUSHED.andThen(x -> x.store(1)), PictureLog::trim, -5);
        check.refused("trim(), an empty log", Made.NEW, PictureLog::trim, -5);
        Consumer<PictureLog> renewed = Made.PLAIN.andThen(x -> {
            x.turn(0, 1);
            x.renew(0);
        });
        check.refused("trim(), the oldest is not flushed", renewed, PictureLog::trim, -5);
        act("trim(), it is flushed", renewed.andThen(PictureLog::flush), PictureLog::trim, 1);
    }

    private static void damage() {
        check.sentence("Damages an entry. This is an act. - `entry`: an entry that the log holds");
        act("damage(0)", FLUSHED, x -> x.damage(0), 1);
        PictureLog x = Told.made(FLUSHED.andThen(y -> y.damage(0)));
        check.due("damaged", x.entry(0, 6), 1);
        check.due("another is not", x.entry(2, 6), 0);
        check.cells("the page as before", x, 0, "333334400000");
        check.sentence("Returns how many pages need a damaged entry then; UNKNOWN; NONE if it is damaged already.");
        act("another of the page", FLUSHED.andThen(y -> y.damage(0)), y -> y.damage(2), 1);
        act("one of another page", FLUSHED.andThen(y -> y.damage(0)), y -> y.damage(1), 2);
        act("one that is not needed", FLUSHED.andThen(y -> y.store(0)), y -> y.damage(0), 0);
        check.refused("damage(3)", FLUSHED, y -> y.damage(3), -1);
        check.refused("damage(-1)", FLUSHED, y -> y.damage(-1), -1);
        check.refused("damage(0), dropped", Made.RICH, y -> y.damage(0), -1);
        check.refused("damage(3), again", Made.RICH, y -> y.damage(3), -5);
    }

    private static void crash() {
        check.sentence("Lets all crash. This is an act. Returns how many entries are lost.");
        act("crash(), all is flushed", FLUSHED, PictureLog::crash, 0);
        act("crash(), nothing is flushed", Made.PACKED, PictureLog::crash, 10);
        check.sentence("A page is restored from the latest picture of it in the log that is not older than the copy in "
                + "the store (its number is not less than that told by the store), or, without one, from the copy in "
                + "the store; then all later entries of the page in the log that are not older than the copy are "
                + "applied, in their order.");
        Consumer<PictureLog> more = FLUSHED.andThen(x -> {
            x.turn(0, 1);
            x.renew(1);
        });
        act("crash()", more, PictureLog::crash, 2);
        PictureLog x = Told.made(more.andThen(PictureLog::crash));
        check.cells("without the turn", x, 0, "333334400000");
        check.tells("count", x, PictureLog::count, 3, 3, 11, 100, 0, 3, 0);
        check.due("crashes so far", x.count(11), 1);
        PictureLog damaged = Told.made(more.andThen(y -> y.damage(2)).andThen(PictureLog::crash));
        check.cells("ahead of the damaged entry", damaged, 0, "333333000000");
        check.tells("page 0", damaged, (y, what) -> y.page(0, what), 21, 2, 0, 0, 1, 1, 6);
        check.tells("page 1", damaged, (y, what) -> y.page(1, what), 20, 1, 1, 0, 0, 0, 4);
        PictureLog older = Told.made(Made.PLAIN);
        Check.read(older, "0r0=1;0p;0r1=2");
        older.flush();
        older.store(0);
        older.fill(0, 2, 2, 3);
        older.flush();
        check.due("a picture that is older than the copy", older.damage(1), 0);
        older.crash();
        check.cells("from the copy, and the change behind it", older, 0, "123000000000");
        check.tells("page 0", older, (y, what) -> y.page(0, what), 10, 1, 3, 3, 0, 0, 10);
        act("crash(), an empty log", Made.NEW, PictureLog::crash, 0);
    }

    private static void type() {
        check.sentence("Types a character behind the text. - `character`: any character Returns the length of the "
                + "text then;");
        for (char character : new char[] {0, ';', 'p', 'z', 255, 256, Character.MAX_VALUE}) {
            noAct("type((char) " + (int) character + ")", Made.RICH, x -> x.type(character), 7);
        }
        PictureLog x = new PictureLog();
        check.due("0", x.type('0'), 1);
        check.due("t", x.type('t'), 2);
        check.due("behind the text", x.type('1'), 3);
        check.due("the text is a turn", x.readOrders(), 1);
        check.sentence("FULL if it has 60 characters.");
        Consumer<PictureLog> almost = Made.typed(Made.RICH, "p".repeat(59));
        noAct("the last one", almost, y -> y.type('p'), 60);
        check.refused("one more", almost.andThen(y -> y.type('p')), y -> y.type('p'), -3);
    }

    private static void clearText() {
        check.sentence("Empties the text. Returns the length that it had.");
        noAct("clearText()", Made.RICH, PictureLog::clearText, 6);
        noAct("clearText(), a full one", Made.typed(Made.RICH, "p".repeat(60)), PictureLog::clearText, 60);
        noAct("clearText(), an empty one", Made.NEW, PictureLog::clearText, 0);
        PictureLog x = Told.made(Made.RICH);
        x.clearText();
        check.due("the length", x.count(13), 0);
        check.due("the text is empty", x.readOrders(), -100);
    }

    private static void undo() {
        check.sentence("Removes and restores the latest state of the history. Returns the number of states that are "
                + "left; NONE if the history is empty.");
        PictureLog x = Told.made(Made.PLAIN);
        for (int value = 1; value <= 5; value++) {
            x.fill(0, 0, 0, value);
        }
        Check.type(x, "0p");
        for (int left = 3; left >= 0; left--) {
            check.due("undo()", x.undo(), left);
            check.due("the value then", x.cell(0, 0), left + 1);
            check.due("the entries then", x.count(0), left + 1);
        }
        check.due("the text is not undone", x.count(13), 2);
        check.due("undo(), empty", x.undo(), -5);
        check.due("the value as before", x.cell(0, 0), 1);
        check.refused("undo(), new", Made.NEW, PictureLog::undo, -5);
    }

    private static void keep() {
        check.sentence("Takes a snapshot of the state, in place of the one that was. Returns the number of the next "
                + "entry.");
        noAct("keep()", Made.NEW, PictureLog::keep, 0);
        noAct("keep()", Made.PACKED, PictureLog::keep, 10);
        noAct("keep(), a second time", Made.RICH, PictureLog::keep, 7);
        PictureLog x = Told.made(Made.PLAIN);
        x.fill(0, 0, 0, 1);
        x.keep();
        x.fill(0, 0, 0, 2);
        check.due("keep()", x.keep(), 2);
        x.fill(0, 0, 0, 3);
        check.due("restore()", x.restore(), 2);
        check.due("the second one", x.cell(0, 0), 2);
    }

    private static void restore() {
        check.sentence("Restores the state of the snapshot, which stays. This is an act. Returns the number of the "
                + "next entry then; NONE if there is no snapshot.");
        act("restore()", Made.RICH, PictureLog::restore, 5);
        Consumer<PictureLog> twice = Made.RICH.andThen(PictureLog::restore).andThen(x -> x.renew(0));
        act("restore(), it stays", twice, PictureLog::restore, 5);
        PictureLog x = Told.made(Made.RICH.andThen(PictureLog::restore));
        check.tells("count", x, PictureLog::count, 5, 4, 19, 80, 0, 3, 0, 53, 0, 1, 4, 0, 4, 6);
        check.refused("restore()", Made.PACKED, PictureLog::restore, -5);
    }

    private static void cell() {
        check.sentence("Returns its value; UNKNOWN (page or cell).");
        Consumer<PictureLog> row = Made.stored(5, "012345678909").andThen(x -> x.turn(5, 1));
        check.cells("turned", Told.made(row), 5, "901234567890");
        check.refused("cell(6, 0)", row, x -> x.cell(6, 0), -1);
        check.refused("cell(-1, 0)", row, x -> x.cell(-1, 0), -1);
        check.refused("cell(5, 12)", row, x -> x.cell(5, 12), -1);
        check.refused("cell(5, -1)", row, x -> x.cell(5, -1), -1);
    }

    private static void page() {
        check.sentence("- `what`: 0 for the time to restore it, 1 for how many entries it needs, 2 for the first of "
                + "them (NONE if it needs none), 3 for the entry as of which its copy in the store is, 4 for whether "
                + "it is doubtful (1, otherwise 0), 5 for whether it needs a damaged entry (1, otherwise 0), 6 for "
                + "the size of a picture of it now");
        PictureLog x = Told.made(Made.PLAIN);
        x.fill(0, 0, 5, 3);
        x.renew(0);
        x.turn(0, 2);
        check.tells("page 0", x, (y, what) -> y.page(0, what), 21, 2, 1, 0, 0, 0, 8);
        x.flush();
        x.damage(2);
        check.tells("page 0, damaged", x, (y, what) -> y.page(0, what), 21, 2, 1, 0, 0, 1, 8);
        x.crash();
        check.tells("page 0, crashed", x, (y, what) -> y.page(0, what), 21, 2, 1, 0, 1, 1, 6);
        x.store(0);
        check.tells("page 0, stored", x, (y, what) -> y.page(0, what), 5, 0, -5, 3, 0, 0, 6);
        check.sentence("Returns the number; UNKNOWN; BAD_VALUE.");
        check.refused("page(6, 7)", Made.RICH, y -> y.page(6, 7), -1);
        check.refused("page(-1, 0)", Made.RICH, y -> y.page(-1, 0), -1);
        check.refused("page(5, 7)", Made.RICH, y -> y.page(5, 7), -2);
        check.refused("page(0, -1)", Made.RICH, y -> y.page(0, -1), -2);
    }

    private static void stored() {
        check.sentence("Tells the cell of a copy in the store. - `page`: a page - `cell`: a cell");
        PictureLog x = Told.made(Made.stored(5, "012345678909").andThen(y -> y.turn(5, 1)));
        for (int cell = 0; cell < 12; cell++) {
            check.due("stored(5, " + cell + ")", x.stored(5, cell), "012345678909".charAt(cell) - '0');
            check.due("stored(4, " + cell + ")", x.stored(4, cell), 0);
        }
        check.sentence("Returns its value; UNKNOWN (page or cell).");
        check.refused("stored(6, 0)", Made.RICH, y -> y.stored(6, 0), -1);
        check.refused("stored(-1, 0)", Made.RICH, y -> y.stored(-1, 0), -1);
        check.refused("stored(0, 12)", Made.RICH, y -> y.stored(0, 12), -1);
        check.refused("stored(0, -1)", Made.RICH, y -> y.stored(0, -1), -1);
    }

    private static void entry() {
        check.sentence("An entry belongs to a page, and is a picture of it (kind 0), or a change.");
        Consumer<PictureLog> three = Made.PLAIN.andThen(x -> {
            Check.read(x, "3r1=123");
            x.renew(3);
            x.flush();
            x.add(3, 0, 1, 5);
            x.damage(1);
        });
        PictureLog x = Told.made(three);
        check.due("a row of the page 3", x.entry(0, 0), 3);
        check.due("a row", x.entry(0, 1), 4);
        check.due("a picture", x.entry(1, 1), 0);
        check.sentence("- `what`: 0 for its page, 1 for its kind, 2 for its size, 3 for its time, 4 for whether it "
                + "is needed (1, otherwise 0), 5 for whether it is flushed (1, otherwise 0), 6 for whether it is "
                + "damaged (1, otherwise 0)");
        check.tells("entry 0", x, (y, what) -> y.entry(0, what), 3, 4, 6, 9, 0, 1, 0);
        check.tells("entry 1", x, (y, what) -> y.entry(1, what), 3, 0, 12, 12, 1, 1, 1);
        check.tells("entry 2", x, (y, what) -> y.entry(2, what), 3, 2, 4, 6, 1, 0, 0);
        check.sentence("Returns the number; UNKNOWN; BAD_VALUE.");
        check.refused("entry(3, 7)", three, y -> y.entry(3, 7), -1);
        check.refused("entry(-1, 0)", three, y -> y.entry(-1, 0), -1);
        check.refused("entry(2, 7)", three, y -> y.entry(2, 7), -2);
        check.refused("entry(0, -1)", three, y -> y.entry(0, -1), -2);
        check.refused("entry(0, 0), dropped", three.andThen(PictureLog::trim), y -> y.entry(0, 0), -1);
    }

    /** The entries 0, 2 and 3 of the page 0, of which 2 is a picture, and 1 of the page 1; none is flushed. */
    private static final Consumer<PictureLog> PICTURED = Made.PLAIN.andThen(x -> {
        x.fill(0, 0, 1, 4);
        x.turn(1, 1);
        x.renew(0);
        x.fill(0, 0, 0, 9);
    });

    private static void asOf() {
        check.sentence("Tells a cell of a page as it was behind an entry: by the latest picture of the page that the "
                + "log holds up to this entry, or, without one, by the copy in the store, and by the changes behind "
                + "that (behind a picture all of them; behind the copy those that are not older than it) up to this "
                + "entry. - `page`: a page - `entry`: an entry that the log holds - `cell`: a cell");
        PictureLog x = Told.made(PICTURED);
        check.cellsAsOf(x, 0, 0, "440000000000");
        check.cellsAsOf(x, 0, 1, "440000000000");
        check.cellsAsOf(x, 0, 2, "440000000000");
        check.cellsAsOf(x, 0, 3, "940000000000");
        check.cellsAsOf(x, 1, 0, "000000000000");
        check.cellsAsOf(x, 5, 3, "000000000000");
        PictureLog stored = Told.made(PICTURED.andThen(PictureLog::flush).andThen(y -> y.store(0)));
        stored.add(0, 11, 11, 2);
        check.cellsAsOf(stored, 0, 2, "440000000000");
        check.cellsAsOf(stored, 0, 3, "940000000000");
        check.cellsAsOf(stored, 0, 4, "940000000002");
    }

    private static void asOfRefused() {
        check.sentence("Returns its value; UNKNOWN (page, entry or cell); NOT_POSSIBLE if the copy is to be made use "
                + "of, and it is as of a later entry than the one behind this entry, or an entry of the page that is "
                + "not older than the copy was dropped, or if an entry that is made use of is damaged.");
        Consumer<PictureLog> flushed = PICTURED.andThen(PictureLog::flush);
        check.refused("asOf(6, 0, 0)", PICTURED, x -> x.asOf(6, 0, 0), -1);
        check.refused("asOf(0, 4, 0)", PICTURED, x -> x.asOf(0, 4, 0), -1);
        check.refused("asOf(0, -1, 0)", PICTURED, x -> x.asOf(0, -1, 0), -1);
        check.refused("asOf(0, 0, 12)", PICTURED, x -> x.asOf(0, 0, 12), -1);
        check.refused("a later copy", flushed.andThen(x -> x.store(0)), x -> x.asOf(0, 1, 0), -4);
        check.refused("a later copy, another page", flushed.andThen(x -> x.store(2)), x -> x.asOf(2, 2, 0), -4);
        check.due("the copy as of the one behind", Told.made(flushed.andThen(x -> x.store(2))).asOf(2, 3, 0), 0);
        Consumer<PictureLog> dropped = flushed.andThen(PictureLog::trim);
        check.refused("a dropped change", dropped, x -> x.asOf(0, 1, 0), -4);
        check.refused("the dropped entry", dropped, x -> x.asOf(0, 0, 0), -1);
        check.due("behind the picture", Told.made(dropped).asOf(0, 2, 0), 4);
        check.due("no entry of this page was dropped", Told.made(dropped).asOf(2, 1, 0), 0);
        Consumer<PictureLog> damaged = PICTURED.andThen(x -> x.damage(2));
        check.refused("a damaged picture", damaged, x -> x.asOf(0, 2, 0), -4);
        check.refused("behind a damaged picture", damaged, x -> x.asOf(0, 3, 1), -4);
        check.due("ahead of it", Told.made(damaged).asOf(0, 1, 1), 4);
        check.refused("a damaged change", PICTURED.andThen(x -> x.damage(0)), x -> x.asOf(0, 1, 5), -4);
        check.due("behind it a picture", Told.made(PICTURED.andThen(x -> x.damage(0))).asOf(0, 2, 0), 4);
        check.refused("UNKNOWN goes ahead", damaged, x -> x.asOf(0, 3, 12), -1);
    }

    private static void wouldLog() {
        check.sentence("Tells what would be logged for a fill of all cells of a page. - `page`: a page - `value`: 0 "
                + "to 9 Returns 0 for a picture, 1 for the change; UNKNOWN; BAD_VALUE.");
        for (int value = 0; value < 10; value++) {
            int filled = value;
            noAct("way 2", Made.NEW, x -> x.wouldLog(0, filled), 0);
            noAct("way 1", x -> x.setWay(1), x -> x.wouldLog(5, filled), 0);
            noAct("way 0", Made.PLAIN, x -> x.wouldLog(5, filled), 1);
        }
        check.refused("wouldLog(6, 10)", Made.RICH, x -> x.wouldLog(6, 10), -1);
        check.refused("wouldLog(-1, 0)", Made.RICH, x -> x.wouldLog(-1, 0), -1);
        check.refused("wouldLog(0, 10)", Made.RICH, x -> x.wouldLog(0, 10), -2);
        check.refused("wouldLog(0, -1)", Made.RICH, x -> x.wouldLog(0, -1), -2);
    }

    private static void bestRenewed() {
        check.sentence("Tells the page that would be restored in the most time less, if it was renewed now: of "
                + "several the lowest. Returns the page; NONE if none would be restored in less time.");
        noAct("5 for each copy, 4 for each picture", Made.NEW, PictureLog::bestRenewed, 0);
        noAct("a turn", Made.PLAIN.andThen(x -> x.turn(3, 1)), PictureLog::bestRenewed, 3);
        noAct("16 less of 20, 14 less of 20", Made.PLAIN.andThen(x -> {
            x.fill(1, 0, 10, 1);
            x.turn(4, 1);
        }), PictureLog::bestRenewed, 4);
        noAct("of two the lowest", Made.PLAIN.andThen(x -> {
            x.turn(4, 1);
            x.turn(2, 1);
        }), PictureLog::bestRenewed, 2);
        Consumer<PictureLog> all = x -> {
            for (int page = 0; page < 6; page++) {
                x.renew(page);
            }
        };
        check.refused("all are renewed", all, PictureLog::bestRenewed, -5);
        noAct("one is stored behind that", all.andThen(PictureLog::flush).andThen(x -> x.store(5)),
                PictureLog::bestRenewed, 5);
    }

    private static void count() {
        check.sentence("- `what`: 0 for the number of the next entry, 1 for the entries that the log holds, 2 for "
                + "their sizes together, 3 for the room, 4 for the way to log, 5 for entries that are needed, 6 for "
                + "entries that are not flushed, 7 for the time to restore all pages, 8 for doubtful pages, 9 for "
                + "pictures logged so far, 10 for changes logged so far, 11 for crashes so far, 12 for the states in "
                + "the history, 13 for the length of the text");
        Consumer<PictureLog> calls = x -> {
            x.setWay(0);
            x.setRoom(90);
            x.fill(0, 0, 0, 1);
            x.fill(1, 0, 1, 2);
            x.turn(2, 1);
            x.flush();
            x.store(0);
            x.store(2);
            x.trim();
            x.renew(1);
            x.fill(3, 0, 2, 3);
            x.damage(1);
            x.crash();
            x.add(4, 0, 3, 1);
            Check.type(x, "0p1");
        };
        check.tells("count", Told.made(calls), PictureLog::count, 4, 3, 11, 90, 0, 2, 1, 44, 1, 1, 5, 1, 4, 3);
        check.sentence("Returns the number; BAD_VALUE.");
        check.range("count", calls, 0, 13, -2, PictureLog::count);
    }
}
