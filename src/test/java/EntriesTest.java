import java.util.List;
import java.util.function.Consumer;
import java.util.function.ToIntFunction;

/** Sentences of the Terms' ENTRIES, RESTORING and LOGGING that name a bound. */
public final class EntriesTest {
    private static final Check check = new Check();

    public static void main(String[] args) {
        numbersFromZero();
        numbersOfDroppedEntries();
        numbersOfLostEntries();
        kinds();
        sizesOfPictures();
        sizesAndTimes();
        roomAtFirst();
        leastAndMostRoom();
        roomThatJustHolds();
        manyEntries();
        emptyLog();
        fullLog();
        pictureAsOldAsTheCopy();
        changeAsOldAsTheCopy();
        latestPicture();
        timeToRestore();
        neededByTheFlushed();
        wayAtFirst();
        sooner();
        soonerBehindAPicture();
        theOtherWays();
        droppedForRoom();
        droppedNoFurther();
        noRoom();
        check.end();
    }

    private static PictureLog plain() {
        return Told.made(Made.PLAIN);
    }

    private static void numbersFromZero() {
        check.sentence("Entries are numbered from 0 in the order in which they came");
        PictureLog x = new PictureLog();
        check.due("the next entry", x.count(0), 0);
        check.due("entry(0, 0)", x.entry(0, 0), -1);
        check.due("renew(5)", x.renew(5), 0);
        check.due("renew(0)", x.renew(0), 1);
        check.due("entry(0, 0)", x.entry(0, 0), 5);
        check.due("entry(1, 0)", x.entry(1, 0), 0);
        check.due("entry(2, 0)", x.entry(2, 0), -1);
        check.due("entry(-1, 0)", x.entry(-1, 0), -1);
        check.due("the next entry", x.count(0), 2);
    }

    private static void numbersOfDroppedEntries() {
        check.sentence("whatever is lost or dropped later");
        PictureLog x = plain();
        x.turn(0, 1);
        x.turn(1, 1);
        x.flush();
        x.store(0);
        x.store(1);
        check.due("all are dropped", x.trim(), 2);
        check.due("the next entry of the empty log", x.count(0), 2);
        check.due("no entry 1", x.entry(1, 0), -1);
        check.due("no entry 2", x.entry(2, 0), -1);
        check.due("a crash loses none", x.crash(), 0);
        check.due("the next entry behind it", x.count(0), 2);
        check.due("renew(3)", x.renew(3), 2);
        check.due("entry(2, 0)", x.entry(2, 0), 3);
        check.due("entry(1, 0)", x.entry(1, 0), -1);
    }

    private static void numbersOfLostEntries() {
        check.sentence("(the number of a lost entry is given again)");
        PictureLog x = plain();
        x.fill(0, 0, 0, 1);
        x.fill(0, 1, 1, 1);
        check.due("all are lost", x.crash(), 2);
        check.due("the next entry of the empty log", x.count(0), 0);
        check.due("renew(4)", x.renew(4), 0);
        x.flush();
        x.turn(2, 1);
        x.turn(3, 1);
        check.due("two are lost", x.crash(), 2);
        check.due("renew(5)", x.renew(5), 1);
        check.due("entry(0, 0)", x.entry(0, 0), 4);
        check.due("entry(1, 0)", x.entry(1, 0), 5);
        check.due("entry(1, 1)", x.entry(1, 1), 0);
        check.due("entry(2, 0)", x.entry(2, 0), -1);
    }

    private static void kinds() {
        check.sentence("is a picture of it (kind 0), or a change");
        PictureLog x = plain();
        x.renew(0);
        x.fill(0, 0, 0, 1);
        x.add(0, 0, 0, 1);
        x.turn(0, 1);
        Check.read(x, "0r0=1");
        for (int kind = 0; kind <= 4; kind++) {
            check.due("entry(" + kind + ", 1)", x.entry(kind, 1), kind);
        }
    }

    private static void sizesOfPictures() {
        check.sentence("2 plus the lesser one of 12 and twice the runs, of a picture");
        int[] sizes = {4, 6, 8, 10, 12, 14, 14, 14, 14, 14, 14, 14};
        for (int runs = 1; runs <= 12; runs++) {
            pictureHasSize(Made.cellsOfRuns(runs), sizes[runs - 1]);
        }
        check.sentence("(a run is a greatest row of like values, one behind the other)");
        pictureHasSize("111111111111", 4);
        pictureHasSize("011111111111", 6);
        pictureHasSize("000000000001", 6);
        pictureHasSize("100000000001", 8);
        pictureHasSize("000000900000", 8);
        pictureHasSize("012222222210", 12);
    }

    private static void pictureHasSize(String cells, int size) {
        PictureLog x = plain();
        Check.read(x, "2r0=" + cells);
        check.due("page(2, 6) with " + cells, x.page(2, 6), size);
        check.due("renew(2) with " + cells, x.renew(2), 1);
        check.due("size of a picture of " + cells, x.entry(1, 2), size);
        check.due("time of a picture of " + cells, x.entry(1, 3), size);
        check.due("time to restore " + cells, x.page(2, 0), size);
        check.due("sizes together", x.count(2), 15 + size);
    }

    private static void sizesAndTimes() {
        check.sentence("4 of a fill and of an add; 3 of a turn; 3 plus the cells of a row. Its time is: its size, and, "
                + "of a change, the number of cells that it writes (12 of a turn).");
        for (int many = 1; many <= 12; many++) {
            int last = many - 1;
            int first = 12 - many;
            sizeAndTime(x -> x.fill(0, 0, last, 3), 4, 4 + many);
            sizeAndTime(x -> x.fill(0, first, 11, 3), 4, 4 + many);
            sizeAndTime(x -> x.add(0, 0, last, 3), 4, 4 + many);
            sizeAndTime(x -> x.add(0, first, 11, 3), 4, 4 + many);
            String digits = "123456789012".substring(0, many);
            sizeAndTime(x -> Check.read(x, "0r0=" + digits), 3 + many, 3 + many + many);
            sizeAndTime(x -> Check.read(x, "0r" + first + "=" + digits), 3 + many, 3 + many + many);
        }
        for (int by = 1; by <= 11; by++) {
            int places = by;
            sizeAndTime(x -> x.turn(0, places), 3, 15);
        }
    }

    private static void sizeAndTime(ToIntFunction<PictureLog> act, int size, int time) {
        PictureLog x = plain();
        int kind = act.applyAsInt(x);
        check.due("size of kind " + kind, x.entry(0, 2), size);
        check.due("time of kind " + kind, x.entry(0, 3), time);
        check.due("sizes together", x.count(2), size);
        check.due("time to restore", x.page(0, 0), 5 + time);
    }

    private static void roomAtFirst() {
        check.sentence("their sizes together are at most the room (30 to 300; at first 100)");
        PictureLog x = plain();
        check.due("room at first", x.count(3), 100);
        for (int i = 0; i < 25; i++) {
            check.due("fill " + i, x.fill(i % 6, 0, 0, 1), 1);
        }
        check.due("sizes together", x.count(2), 100);
        check.due("one turn more", x.turn(0, 1), -3);
        PictureLog y = plain();
        for (int i = 0; i < 33; i++) {
            check.due("turn " + i, y.turn(i % 6, 1), 3);
        }
        check.due("sizes together", y.count(2), 99);
        check.due("one turn more", y.turn(0, 1), -3);
    }

    private static void leastAndMostRoom() {
        check.sentence("room: 30 to 300");
        for (int room = 30; room <= 300; room++) {
            PictureLog x = new PictureLog();
            check.due("setRoom(" + room + ")", x.setRoom(room), room == 100 ? -5 : 100);
            check.due("the room then", x.count(3), room);
        }
        for (int room : new int[] {Integer.MIN_VALUE, -30, 0, 29, 301, Integer.MAX_VALUE}) {
            check.refused("setRoom(" + room + ")", Made.RICH, x -> x.setRoom(room), -2);
        }
        for (int room : new int[] {30, 300}) {
            PictureLog x = plain();
            x.setRoom(room);
            for (int i = 0; i < room / 3; i++) {
                check.due("turn " + i + " with a room of " + room, x.turn(i % 6, 1), 3);
            }
            check.due("sizes together", x.count(2), room);
            check.due("held", x.count(1), room / 3);
            check.due("one turn more", x.turn(0, 1), -3);
            check.due("one picture more", x.renew(0), -3);
        }
    }

    /** Of the room 28 are taken by entries of the page 1 that are not flushed; the page 0 has so many runs. */
    private static Consumer<PictureLog> with28(int runs) {
        return Made.stored(0, Made.cellsOfRuns(runs)).andThen(x -> {
            for (int i = 0; i < 7; i++) {
                x.fill(1, i, i, 1);
            }
        });
    }

    private static void roomThatJustHolds() {
        check.sentence("their sizes together are at most the room");
        justHeld(with28(1), "turn(0, 1)", 3, x -> x.turn(0, 1));
        justHeld(with28(1), "fill(0, 0, 0, 1)", 4, x -> x.fill(0, 0, 0, 1));
        justHeld(with28(1), "fill(0, 0, 11, 1)", 4, x -> x.fill(0, 0, 11, 1));
        justHeld(with28(1), "add(0, 11, 11, 1)", 4, x -> x.add(0, 11, 11, 1));
        justHeld(with28(1), "add(0, 0, 11, 1)", 4, x -> x.add(0, 0, 11, 1));
        for (int many = 1; many <= 12; many++) {
            String row = "0r0=" + "123456789012".substring(0, many);
            justHeld(Made.typed(with28(1), row), row, 3 + many, PictureLog::readOrders);
        }
        for (int runs = 1; runs <= 12; runs++) {
            int size = 2 + Math.min(12, 2 * runs);
            justHeld(with28(runs), "renew(0)", size, x -> x.renew(0));
            justHeld(Made.typed(with28(runs), "0p"), "0p", size, PictureLog::readOrders);
        }
        justHeld(with28(1).andThen(x -> x.setWay(1)), "fill(0, 1, 1, 1)", 8, x -> x.fill(0, 1, 1, 1));
        justHeld(with28(3).andThen(x -> x.setWay(1)), "fill(0, 0, 11, 1)", 4, x -> x.fill(0, 0, 11, 1));
        justHeld(with28(1).andThen(x -> x.setWay(2)), "turn(0, 1)", 4, x -> x.turn(0, 1));
    }

    private static void justHeld(Consumer<PictureLog> made, String call, int size, ToIntFunction<PictureLog> act) {
        PictureLog x = Told.made(made);
        x.setRoom(28 + size);
        check.holds(call + " just finds room", act.applyAsInt(x) >= 0);
        check.due(call + " takes all of it", x.count(2), x.count(3));
        check.due(call + " drops none", x.count(1), 8);
        check.refused(call + " just finds no room", made.andThen(y -> y.setRoom(27 + size)), act, -3);
    }

    private static void manyEntries() {
        check.sentence("The log holds some of the latest entries, one behind the other");
        PictureLog x = plain();
        x.setRoom(300);
        for (int i = 0; i < 300; i++) {
            if (i % 100 == 0) {
                x.flush();
                for (int page = 0; page < 6; page++) {
                    x.store(page);
                }
            }
            check.due("turn " + i, x.turn(i % 6, 1), 3);
        }
        check.due("held", x.count(1), 100);
        check.due("sizes together", x.count(2), 300);
        check.due("the next entry", x.count(0), 300);
        check.due("entry(199, 0)", x.entry(199, 0), -1);
        for (int entry = 200; entry < 300; entry++) {
            check.due("entry(" + entry + ", 0)", x.entry(entry, 0), entry % 6);
        }
        check.due("entry(300, 0)", x.entry(300, 0), -1);
        check.due("needed", x.count(5), 100);
        check.due("lost", x.crash(), 100);
        check.due("held behind a crash", x.count(1), 0);
    }

    /** A log that never held an entry, one whose entries were all dropped, and one whose entries were all lost. */
    private static void emptyLog() {
        check.sentence("Creates empty pages and an empty log.");
        Consumer<PictureLog> lost = Made.PLAIN.andThen(x -> x.turn(0, 1)).andThen(PictureLog::crash);
        Consumer<PictureLog> dropped = Made.stored(0, "000000000000");
        for (Consumer<PictureLog> made : List.of(Made.NEW, lost, dropped)) {
            int next = made == dropped ? 1 : 0;
            PictureLog x = Told.made(made);
            check.due("the next entry", x.count(0), next);
            check.due("held", x.count(1), 0);
            check.due("sizes together", x.count(2), 0);
            check.due("needed", x.count(5), 0);
            check.due("not flushed", x.count(6), 0);
            check.due("time to restore all pages", x.count(7), 30);
            check.due("best renewed", x.bestRenewed(), 0);
            check.due("the last entry", x.entry(next - 1, 0), -1);
            check.due("the next entry", x.entry(next, 0), -1);
            check.due("as of the last entry", x.asOf(0, next - 1, 0), -1);
            check.due("as of the next entry", x.asOf(0, next, 0), -1);
            check.refused("flush()", made, PictureLog::flush, -5);
            check.refused("trim()", made, PictureLog::trim, -5);
            check.refused("damage(0)", made, y -> y.damage(0), -1);
            check.refused("damage(1)", made, y -> y.damage(1), -1);
            check.due("store(0)", Told.made(made).store(0), 0);
            check.due("crash()", Told.made(made).crash(), 0);
            check.due("keep()", Told.made(made).keep(), next);
            check.due("setRoom(30)", Told.made(made).setRoom(30), 100);
            check.due("renew(5)", Told.made(made).renew(5), next);
            check.due("a row of 12", Check.read(Told.made(made.andThen(y -> y.setRoom(30))), "0r0=123456789012"),
                    made == Made.NEW ? 1 : 0);
        }
    }

    private static void fullLog() {
        check.sentence("their sizes together are at most the room");
        PictureLog x = Told.made(Made.PACKED);
        check.due("sizes together", x.count(2), x.count(3));
        check.refused("trim()", Made.PACKED, PictureLog::trim, -5);
        check.refused("store(2)", Made.PACKED, y -> y.store(2), -4);
        check.refused("setRoom(30)", Made.PACKED, y -> y.setRoom(30), -5);
        check.due("store(0)", Told.made(Made.PACKED).store(0), 0);
        check.due("damage(9)", Told.made(Made.PACKED).damage(9), 1);
        check.due("keep()", Told.made(Made.PACKED).keep(), 10);
        check.due("crash()", Told.made(Made.PACKED).crash(), 10);
        check.due("flush()", x.flush(), 10);
        check.due("needed", x.count(5), 10);
        check.due("turn(0, 1), all flushed, all needed", x.turn(0, 1), -3);
        check.due("store(2)", x.store(2), 10);
        check.due("turn(0, 1), none needed", x.turn(0, 1), 3);
        check.due("one was dropped for it", x.count(1), 10);
        check.due("the oldest one", x.entry(1, 0), 2);
        check.due("the one ahead", x.entry(0, 0), -1);
        check.due("full again", x.count(2), 30);
        check.due("setRoom(31)", x.setRoom(31), 30);
        check.due("one more, for which 1 is not enough", x.turn(0, 1), 3);
        check.due("one was dropped for it", x.count(1), 10);
        check.due("setRoom(33)", x.setRoom(33), 31);
        check.due("one more finds room", x.turn(0, 1), 3);
        check.due("none was dropped for it", x.count(1), 11);
    }

    private static void pictureAsOldAsTheCopy() {
        check.sentence("the latest picture of it in the log that is not older than the copy in the store (its number is "
                + "not less than that told by the store)");
        PictureLog x = plain();
        x.fill(0, 0, 0, 1);
        check.due("renew(0)", x.renew(0), 1);
        x.flush();
        x.store(0);
        check.due("the copy is as of", x.page(0, 3), 2);
        check.due("a picture with one number less is not needed", x.page(0, 1), 0);
        check.due("the first needed", x.page(0, 2), -5);
        check.due("time", x.page(0, 0), 5);
        check.due("entry(1, 4)", x.entry(1, 4), 0);
        check.due("renew(0)", x.renew(0), 2);
        check.due("a picture with that number is needed", x.page(0, 1), 1);
        check.due("the first needed", x.page(0, 2), 2);
        check.due("time", x.page(0, 0), 6);
        check.due("entry(2, 4)", x.entry(2, 4), 1);
        x.flush();
        x.damage(1);
        check.due("the older one is not needed", x.page(0, 5), 0);
        x.damage(2);
        check.due("the other one is", x.page(0, 5), 1);
    }

    private static void changeAsOldAsTheCopy() {
        check.sentence("then all later entries of the page in the log that are not older than the copy are applied");
        PictureLog x = plain();
        x.add(0, 0, 0, 1);
        x.add(0, 0, 0, 1);
        x.flush();
        x.store(0);
        x.crash();
        check.due("changes with less than the copy's number are not applied", x.cell(0, 0), 2);
        check.due("needed", x.page(0, 1), 0);
        x.add(0, 0, 0, 5);
        x.flush();
        x.crash();
        check.due("one with that number is", x.cell(0, 0), 7);
        check.due("needed", x.page(0, 1), 1);
        check.due("the first needed", x.page(0, 2), 2);
        check.due("time", x.page(0, 0), 10);
        check.due("entry(1, 4)", x.entry(1, 4), 0);
        check.due("entry(2, 4)", x.entry(2, 4), 1);
    }

    private static void latestPicture() {
        check.sentence("These are the entries that the page needs: that picture and those behind it.");
        PictureLog x = plain();
        check.due("an empty log", x.page(0, 1), 0);
        check.due("none needed", x.count(5), 0);
        x.fill(0, 0, 0, 1);
        check.tells("one change", x, (y, what) -> y.page(0, what), 10, 1, 0);
        x.renew(0);
        check.tells("a picture behind it", x, (y, what) -> y.page(0, what), 6, 1, 1);
        x.fill(0, 1, 1, 2);
        check.tells("a change behind that", x, (y, what) -> y.page(0, what), 11, 2, 1);
        x.renew(0);
        check.tells("a later picture", x, (y, what) -> y.page(0, what), 8, 1, 3);
        x.renew(1);
        check.tells("another page's picture", x, (y, what) -> y.page(0, what), 8, 1, 3);
        int[] needed = {0, 0, 0, 1, 1};
        for (int entry = 0; entry < needed.length; entry++) {
            check.due("entry(" + entry + ", 4)", x.entry(entry, 4), needed[entry]);
        }
        check.due("needed", x.count(5), 2);
    }

    private static void timeToRestore() {
        check.sentence("The time to restore it is 5 for the copy in the store, or the time of the picture, and the times "
                + "of the changes behind it.");
        PictureLog x = plain();
        check.due("the copy alone", x.page(0, 0), 5);
        check.due("all pages", x.count(7), 30);
        x.fill(0, 0, 0, 1);
        check.due("the copy and a fill", x.page(0, 0), 5 + 5);
        x.turn(0, 11);
        check.due("and a turn", x.page(0, 0), 5 + 5 + 15);
        check.due("all pages", x.count(7), 25 + 25);
        x.renew(0);
        check.due("a picture alone", x.page(0, 0), 6);
        check.due("all pages", x.count(7), 6 + 25);
        x.add(0, 0, 11, 1);
        check.due("and an add", x.page(0, 0), 6 + 16);
        x.flush();
        x.store(0);
        check.due("the copy alone again", x.page(0, 0), 5);
    }

    private static void neededByTheFlushed() {
        check.sentence("An entry is needed if its page needs it, or would need it if the log held those of its entries "
                + "alone that are flushed.");
        PictureLog x = plain();
        x.fill(0, 0, 0, 1);
        x.fill(0, 1, 1, 1);
        x.flush();
        x.fill(0, 2, 2, 1);
        x.renew(0);
        x.fill(0, 3, 3, 1);
        int[] flushedTwo = {1, 1, 0, 1, 1};
        for (int entry = 0; entry < 5; entry++) {
            check.due("two flushed: entry(" + entry + ", 4)", x.entry(entry, 4), flushedTwo[entry]);
        }
        check.due("needed", x.count(5), 4);
        check.due("by the page itself", x.page(0, 1), 2);
        x.flush();
        int[] flushedAll = {0, 0, 0, 1, 1};
        for (int entry = 0; entry < 5; entry++) {
            check.due("all flushed: entry(" + entry + ", 4)", x.entry(entry, 4), flushedAll[entry]);
        }
        check.due("needed", x.count(5), 2);
        x.renew(0);
        check.due("the flushed picture", x.entry(3, 4), 1);
        check.due("the flushed change behind it", x.entry(4, 4), 1);
        check.due("the picture that is not flushed", x.entry(5, 4), 1);
        check.due("needed", x.count(5), 3);
        PictureLog y = plain();
        y.fill(0, 0, 0, 1);
        y.renew(0);
        check.due("none flushed: the change", y.entry(0, 4), 0);
        check.due("none flushed: the picture", y.entry(1, 4), 1);
        y.flush();
        y.store(0);
        y.renew(0);
        check.due("flushed, but older than the copy", y.entry(1, 4), 0);
        check.due("needed", y.count(5), 1);
    }

    private static void wayAtFirst() {
        check.sentence("There is a way to log (0 to 2; at first 2)");
        check.due("at first", new PictureLog().count(4), 2);
        check.due("a first turn", new PictureLog().turn(0, 1), 0);
        for (int way = 0; way <= 2; way++) {
            PictureLog x = new PictureLog();
            check.due("setWay(" + way + ")", x.setWay(way), way == 2 ? -5 : 2);
            check.due("the way then", x.count(4), way);
        }
        for (int way : new int[] {Integer.MIN_VALUE, -1, 3, Integer.MAX_VALUE}) {
            check.refused("setWay(" + way + ")", Made.RICH, x -> x.setWay(way), -2);
        }
    }

    /** Logs an act in the way 2 on the page 0 that is restored from its copy with these cells. */
    private static void sooner(String cells, String call, ToIntFunction<PictureLog> act, int kind) {
        PictureLog x = Told.made(Made.stored(0, cells));
        x.setWay(2);
        act.applyAsInt(x);
        check.due("kind of " + call + " on " + cells, x.entry(1, 1), kind);
    }

    private static void sooner() {
        check.sentence("2 as they are, unless the time to restore the page with this change behind all others is "
                + "greater than the time of a picture of the page behind the change; then as a picture");
        String three = "001000000000";
        sooner(three, "fill: 5 and 5, four runs", x -> x.fill(0, 11, 11, 2), 1);
        sooner(three, "fill: 5 and 6, four runs", x -> x.fill(0, 10, 11, 2), 0);
        sooner(three, "fill: 5 and 5, three runs", x -> x.fill(0, 2, 2, 2), 0);
        sooner(three, "fill: 5 and 7, five runs", x -> x.fill(0, 5, 7, 2), 1);
        sooner(three, "fill: 5 and 8, five runs", x -> x.fill(0, 5, 8, 2), 0);
        sooner(three, "fill: 5 and 16, one run", x -> x.fill(0, 0, 11, 2), 0);
        sooner(three, "add: 5 and 5, four runs", x -> x.add(0, 11, 11, 2), 2);
        sooner(three, "add: 5 and 6, four runs", x -> x.add(0, 10, 11, 2), 0);
        sooner(three, "row: 5 and 5, four runs", x -> Check.read(x, "0r11=2"), 4);
        sooner(three, "row: 5 and 7, four runs", x -> Check.read(x, "0r10=22"), 0);
        sooner(three, "row: 5 and 7, five runs", x -> Check.read(x, "0r10=23"), 4);
        String five = "010100000000";
        sooner(five, "fill: 5 and 9, seven runs", x -> x.fill(0, 6, 10, 2), 1);
        sooner(five, "fill: 5 and 10, seven runs", x -> x.fill(0, 5, 10, 2), 0);
        sooner(five, "add: 5 and 9, seven runs", x -> x.add(0, 6, 10, 2), 2);
        sooner(five, "add: 5 and 10, seven runs", x -> x.add(0, 5, 10, 2), 0);
        sooner(five, "row: 5 and 9, nine runs", x -> Check.read(x, "0r6=234"), 4);
        sooner(five, "row: 5 and 11, ten runs", x -> Check.read(x, "0r6=2345"), 0);
        sooner("010101010101", "turn: 5 and 15, twelve runs", x -> x.turn(0, 1), 0);
        PictureLog x = Told.made(Made.stored(0, "010101010101"));
        x.setWay(2);
        check.due("5 and 5 against 14", x.fill(0, 5, 5, 9), 1);
        check.due("10 and 5 against 14", x.fill(0, 6, 6, 9), 0);
    }

    private static void soonerBehindAPicture() {
        check.sentence("is greater than the time of a picture of the page behind the change");
        PictureLog x = new PictureLog();
        x.renew(0);
        check.due("4 and 5 against three runs, 8", x.fill(0, 5, 5, 1), 0);
        check.due("8 and 5 against five runs, 12", x.fill(0, 7, 7, 1), 0);
        check.due("12 and 5 against seven runs, 14", x.add(0, 9, 9, 1), 0);
        check.due("pictures so far", x.count(9), 4);
        check.due("changes so far", x.count(10), 0);
    }

    private static void theOtherWays() {
        check.sentence("0 changes are always logged as they are; 1 always as pictures");
        PictureLog x = plain();
        for (int i = 0; i < 4; i++) {
            check.due("fill of all, way 0", x.fill(0, 0, 11, i), 1);
            check.due("add to all, way 0", x.add(0, 0, 11, 1), 2);
            check.due("turn, way 0", x.turn(0, 1), 3);
        }
        check.due("pictures so far", x.count(9), 0);
        check.due("changes so far", x.count(10), 12);
        PictureLog y = Told.made(Made.stored(0, "001000000000"));
        y.setWay(1);
        check.due("fill that would be restored sooner, way 1", y.fill(0, 5, 5, 2), 0);
        check.due("add, way 1", y.add(0, 5, 5, 2), 0);
        check.due("turn, way 1", y.turn(0, 1), 0);
        check.due("row, way 1", Check.read(y, "0r0=1"), 1);
        check.due("pictures so far", y.count(9), 4);
        check.due("changes so far", y.count(10), 1);
    }

    /** Of the sizes 28: 20 of five entries of the page 0 that may be dropped, 8 of two of the page 1. */
    private static final Consumer<PictureLog> FIVE_TO_DROP = x -> {
        x.setWay(0);
        for (int i = 0; i < 5; i++) {
            x.fill(0, i, i, 1);
        }
        x.flush();
        x.store(0);
        x.fill(1, 0, 0, 1);
        x.fill(1, 1, 1, 1);
    };

    private static void droppedForRoom() {
        check.sentence("Before an entry is logged, if it would not find room, entries are dropped from the log, the "
                + "oldest one first, as long as the oldest one is flushed and not needed, and there is not room enough.");
        dropped(32, x -> x.fill(2, 0, 0, 1), 0, 32);
        dropped(31, x -> x.fill(2, 0, 0, 1), 1, 28);
        dropped(31, x -> x.turn(2, 1), 0, 31);
        dropped(30, x -> x.turn(2, 1), 1, 27);
        dropped(35, x -> Check.read(x, "2r0=1234"), 0, 35);
        dropped(34, x -> Check.read(x, "2r0=1234"), 1, 31);
        dropped(31, x -> Check.read(x, "2r0=1234"), 1, 31);
        dropped(30, x -> Check.read(x, "2r0=1234"), 2, 27);
        dropped(30, x -> Check.read(x, "2r0=123456789012"), 4, 27);
        dropped(30, x -> Check.read(x, "2r0=123456789012;2t1"), 4, 30);
        dropped(30, x -> Check.read(x, "2r0=123456789012;2t1;2f0-0=1"), 5, 30);
        dropped(32, x -> x.renew(2), 0, 32);
        dropped(31, x -> x.renew(2), 1, 28);
    }

    private static void dropped(int room, ToIntFunction<PictureLog> act, int many, int sizes) {
        PictureLog x = Told.made(FIVE_TO_DROP);
        x.setRoom(room);
        check.holds("there is room", act.applyAsInt(x) >= 0);
        check.due("the oldest one held", x.entry(many, 0), many < 5 ? 0 : 1);
        check.due("the entry ahead of it", x.entry(many - 1, 0), -1);
        check.due("sizes together", x.count(2), sizes);
        x.undo();
        check.due("undone", x.entry(0, 0), 0);
    }

    private static void droppedNoFurther() {
        check.sentence("as long as the oldest one is flushed and not needed");
        PictureLog x = Told.made(Made.TIGHT);
        check.due("a row of 3 makes use of all that may be dropped", Check.read(x, "2r0=123"), 0);
        check.due("sizes together", x.count(2), 30);
        check.due("the oldest one", x.entry(0, 0), -1);
        check.due("the next one", x.entry(1, 0), 1);
        check.refused("a row of 4, that would need one more", Made.typed(Made.TIGHT, "2r0=1234"),
                PictureLog::readOrders, -3);
        Consumer<PictureLog> notFlushed = y -> {
            y.setWay(0);
            y.setRoom(30);
            y.fill(0, 0, 0, 1);
            y.renew(0);
            for (int i = 0; i < 5; i++) {
                y.fill(1, i, i, 1);
            }
        };
        check.due("not needed, but not flushed", Told.made(notFlushed).entry(0, 4), 0);
        check.refused("turn(2, 1)", notFlushed, y -> y.turn(2, 1), -3);
        check.due("flushed", Told.made(notFlushed.andThen(PictureLog::flush)).turn(2, 1), 3);
        Consumer<PictureLog> needed = y -> {
            y.setWay(0);
            y.setRoom(30);
            y.fill(0, 0, 0, 1);
            for (int i = 0; i < 6; i++) {
                y.fill(1, i, i, 1);
            }
            y.flush();
            y.store(1);
        };
        check.due("flushed and not needed behind the oldest one", Told.made(needed).entry(1, 4), 0);
        check.refused("turn(2, 1)", needed, y -> y.turn(2, 1), -3);
        check.due("the oldest one is not needed any more", Told.made(needed.andThen(y -> y.store(0))).turn(2, 1), 3);
    }

    private static void noRoom() {
        check.sentence("If there is not room enough then, there is no room.");
        Consumer<PictureLog> packedPictures = Made.PACKED.andThen(x -> x.setWay(1));
        for (Consumer<PictureLog> made : List.of(Made.PACKED, packedPictures)) {
            check.refused("fill(0, 0, 1, 2)", made, x -> x.fill(0, 0, 1, 2), -3);
            check.refused("add(0, 0, 1, 2)", made, x -> x.add(0, 0, 1, 2), -3);
            check.refused("turn(0, 1)", made, x -> x.turn(0, 1), -3);
            check.refused("renew(0)", made, x -> x.renew(0), -3);
            check.refused("0r0=1", Made.typed(made, "0r0=1"), PictureLog::readOrders, -3);
            check.refused("0p", Made.typed(made, "0p"), PictureLog::readOrders, -3);
        }
        check.refused("fill(0, 0, 1, 2) of the page that holds all", Made.PACKED, x -> x.fill(2, 0, 1, 2), -3);
        check.refused("renew(2) of the page that holds all", Made.PACKED, x -> x.renew(2), -3);
        check.refused("renew(2), all flushed", Made.PACKED.andThen(PictureLog::flush), x -> x.renew(2), -3);
        check.due("renew(2), all stored", Told.made(Made.PACKED.andThen(PictureLog::flush).andThen(x -> x.store(2)))
                .renew(2), 10);
    }
}
