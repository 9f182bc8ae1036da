import java.util.List;
import java.util.function.Consumer;

/** Sentences of the Terms' FLUSHING AND CRASHES, and of the promises 7 to 13, that name a bound. */
public final class CrashTest {
    private static final String ZEROS = "000000000000";
    private static final Check check = new Check();

    public static void main(String[] args) {
        flushedAtFirst();
        flushUpToTheLast();
        lostInACrash();
        lostAreAll();
        aheadOfTheFirstDamaged();
        aheadOfADamagedPicture();
        andSoOn();
        hundredDamaged();
        theLogStays();
        notDoubtfulWithoutNeed();
        pictureEndsDoubt();
        changeLeavesDoubt();
        storeNeedsFlushedEntries();
        storedAsOfTheFlushed();
        storeEndsDoubt();
        storeTellsWhatIsNeededLess();
        ways();
        rooms();
        roomsNotPossible();
        trims();
        damages();
        damagedStaysAsItIs();
        crashes();
        check.end();
    }

    private static PictureLog plain() {
        return Told.made(Made.PLAIN);
    }

    private static void flushedAtFirst() {
        check.sentence("The log is flushed up to an entry (at first none).");
        PictureLog x = plain();
        check.due("not flushed at first", x.count(6), 0);
        x.turn(0, 1);
        check.due("not flushed", x.count(6), 1);
        check.due("entry(0, 5)", x.entry(0, 5), 0);
        check.refused("flush() of an empty log", Made.NEW, PictureLog::flush, -5);
    }

    private static void flushUpToTheLast() {
        check.sentence("Flushes the log up to its last entry.");
        for (int many = 1; many <= 33; many++) {
            PictureLog x = plain();
            for (int i = 0; i < many; i++) {
                x.turn(i % 6, 1);
            }
            check.due("flush()", x.flush(), many);
            check.due("entry(0, 5)", x.entry(0, 5), 1);
            check.due("the last one", x.entry(many - 1, 5), 1);
            check.due("flush() again", x.flush(), -5);
            check.due("not flushed", x.count(6), 0);
            if (many < 33) {
                x.turn(0, 1);
                check.due("the one behind it", x.entry(many, 5), 0);
                check.due("the last flushed one", x.entry(many - 1, 5), 1);
                check.due("flush() of that one", x.flush(), 1);
            }
        }
        check.sentence("NONE if all are already");
        check.refused("flush()", Made.RICH.andThen(PictureLog::flush), PictureLog::flush, -5);
        check.refused("flush() behind a crash", Made.RICH.andThen(PictureLog::crash), PictureLog::flush, -5);
        Consumer<PictureLog> empty = Made.stored(0, ZEROS);
        check.due("an empty log", Told.made(empty).count(1), 0);
        check.refused("flush() of a log whose entries were dropped", empty, PictureLog::flush, -5);
        check.due("flush() of the first one then", Told.made(empty.andThen(x -> x.renew(0))).flush(), 1);
    }

    private static void lostInACrash() {
        check.sentence("In a crash, all entries that were not flushed are lost; then all pages become what is restored "
                + "of them.");
        PictureLog x = plain();
        x.fill(0, 0, 0, 1);
        x.fill(1, 0, 0, 2);
        x.flush();
        x.fill(0, 1, 1, 3);
        x.fill(5, 0, 11, 4);
        check.due("crash()", x.crash(), 2);
        check.due("the last flushed one stays", x.entry(1, 0), 1);
        check.due("the first one that was not is lost", x.entry(2, 0), -1);
        check.due("the next entry", x.count(0), 2);
        check.due("held", x.count(1), 2);
        check.due("sizes together", x.count(2), 8);
        check.cells("behind the crash", x, 0, "100000000000");
        check.cells("behind the crash", x, 1, "200000000000");
        check.cells("behind the crash", x, 5, ZEROS);
        check.due("crash(), all flushed", x.crash(), 0);
        check.cells("behind that", x, 0, "100000000000");
        check.due("held", x.count(1), 2);
    }

    private static void lostAreAll() {
        check.sentence("Returns how many entries are lost.");
        PictureLog x = plain();
        check.due("crash() with an empty log", x.crash(), 0);
        check.due("it is an act", x.count(12), 2);
        check.due("crashes so far", x.count(11), 1);
        for (int i = 0; i < 33; i++) {
            x.turn(i % 6, 1);
        }
        check.due("none flushed", x.crash(), 33);
        check.due("held", x.count(1), 0);
        check.due("the next entry", x.count(0), 0);
        x.turn(0, 1);
        check.due("one not flushed", x.crash(), 1);
        check.due("crashes so far", x.count(11), 3);
    }

    /** Three changes of the page 0, all flushed; the damaged ones are named by digits. */
    private static PictureLog changesWithDamaged(String entries) {
        PictureLog x = plain();
        x.fill(0, 0, 0, 1);
        x.fill(0, 1, 1, 2);
        x.fill(0, 2, 2, 3);
        x.flush();
        damage(x, entries);
        x.crash();
        return x;
    }

    private static void damage(PictureLog x, String entries) {
        for (int i = 0; i < entries.length(); i++) {
            x.damage(entries.charAt(i) - '0');
        }
    }

    private static void crashed(String damaged, PictureLog x, String cells, int doubtful) {
        check.cells("damaged: " + damaged, x, 0, cells);
        check.due("doubtful with damaged " + damaged, x.page(0, 4), doubtful);
        check.due("needs a damaged one with damaged " + damaged, x.page(0, 5), doubtful);
        check.due("doubtful pages with damaged " + damaged, x.count(8), doubtful);
    }

    private static void aheadOfTheFirstDamaged() {
        check.sentence("a page that needs a damaged one in a crash is restored as if the log held but the entries ahead "
                + "of the first damaged one that it needs");
        crashed("", changesWithDamaged(""), "123000000000", 0);
        crashed("2", changesWithDamaged("2"), "120000000000", 1);
        crashed("1", changesWithDamaged("1"), "100000000000", 1);
        crashed("0", changesWithDamaged("0"), ZEROS, 1);
        crashed("12", changesWithDamaged("12"), "100000000000", 1);
        crashed("21", changesWithDamaged("21"), "100000000000", 1);
        crashed("02", changesWithDamaged("02"), ZEROS, 1);
        crashed("012", changesWithDamaged("012"), ZEROS, 1);
    }

    /** A change, a picture, a change, a picture and a change of the page 0, all flushed. */
    private static PictureLog picturesWithDamaged(String entries) {
        PictureLog x = plain();
        x.fill(0, 0, 0, 1);
        x.renew(0);
        x.fill(0, 1, 1, 2);
        x.renew(0);
        x.fill(0, 2, 2, 3);
        x.flush();
        damage(x, entries);
        x.crash();
        return x;
    }

    private static void aheadOfADamagedPicture() {
        check.sentence("ahead of the first damaged one that it needs");
        crashed("4", picturesWithDamaged("4"), "120000000000", 1);
        crashed("3", picturesWithDamaged("3"), "120000000000", 1);
        crashed("34", picturesWithDamaged("34"), "120000000000", 1);
        crashed("2, not needed", picturesWithDamaged("2"), "123000000000", 0);
        crashed("0 and 1 and 2, not needed", picturesWithDamaged("012"), "123000000000", 0);
        crashed("0 and 1 and 2, not needed ahead of 4", picturesWithDamaged("0124"), "120000000000", 1);
    }

    private static void andSoOn() {
        check.sentence("(and so on, if it needs a damaged one among these)");
        crashed("3, and 2 then", picturesWithDamaged("23"), "100000000000", 1);
        crashed("3, and 1 then", picturesWithDamaged("13"), "100000000000", 1);
        crashed("3, and 1 then, and 0 then", picturesWithDamaged("013"), ZEROS, 1);
        crashed("3, and 2 then, and not 0", picturesWithDamaged("023"), "100000000000", 1);
        crashed("3, and 0 is not needed then", picturesWithDamaged("03"), "120000000000", 1);
        crashed("3, and 2 then, and 1 then", picturesWithDamaged("123"), "100000000000", 1);
        crashed("all", picturesWithDamaged("01234"), ZEROS, 1);
        PictureLog x = plain();
        x.fill(0, 0, 0, 1);
        x.renew(0);
        x.fill(0, 1, 1, 2);
        x.flush();
        x.trim();
        x.damage(1);
        x.crash();
        check.cells("all that was ahead of the damaged picture was dropped", x, 0, ZEROS);
        check.due("doubtful", x.page(0, 4), 1);
    }

    private static void hundredDamaged() {
        check.sentence("(and so on, if it needs a damaged one among these)");
        PictureLog x = plain();
        x.setRoom(300);
        x.fill(0, 0, 11, 7);
        x.flush();
        x.store(0);
        x.trim();
        for (int i = 0; i < 75; i++) {
            check.due("renew(0)", x.renew(0), i + 1);
        }
        x.flush();
        check.due("sizes together", x.count(2), 300);
        for (int i = 1; i < 75; i++) {
            check.due("damage(" + i + ")", x.damage(i), 0);
        }
        check.due("damage(75)", x.damage(75), 1);
        x.crash();
        check.cells("75 damaged pictures, and the copy", x, 0, "777777777777");
        check.due("doubtful", x.page(0, 4), 1);
        PictureLog y = plain();
        y.setRoom(300);
        for (int i = 0; i < 100; i++) {
            y.turn(0, 1);
        }
        y.flush();
        for (int i = 99; i >= 0; i--) {
            check.due("damage(" + i + ")", y.damage(i), 1);
        }
        check.due("crash()", y.crash(), 0);
        check.due("held", y.count(1), 100);
        check.cells("100 damaged turns", y, 0, ZEROS);
        check.due("doubtful", y.page(0, 4), 1);
    }

    private static void theLogStays() {
        check.sentence("and is doubtful then (the log stays as it is)");
        PictureLog x = picturesWithDamaged("23");
        check.due("held", x.count(1), 5);
        check.due("the next entry", x.count(0), 5);
        check.due("needed", x.count(5), 2);
        check.due("time", x.page(0, 0), 8 + 5);
        int[] damaged = {0, 0, 1, 1, 0};
        for (int entry = 0; entry < 5; entry++) {
            check.due("entry(" + entry + ", 6)", x.entry(entry, 6), damaged[entry]);
        }
        check.due("crash() again", x.crash(), 0);
        check.cells("crashed again", x, 0, "100000000000");
        check.due("a change behind that", x.fill(0, 5, 5, 5), 1);
        check.due("a crash that loses it", x.crash(), 1);
        x.fill(0, 5, 5, 5);
        x.flush();
        x.crash();
        check.cells("flushed, but behind a damaged one", x, 0, "100000000000");
    }

    private static void notDoubtfulWithoutNeed() {
        check.sentence("a page that needs none is not doubtful");
        PictureLog x = changesWithDamaged("1");
        check.due("doubtful", x.page(0, 4), 1);
        check.due("another page is not", x.page(1, 4), 0);
        x.renew(0);
        x.flush();
        x.crash();
        check.due("the damaged one is not needed any more", x.page(0, 4), 0);
        check.cells("from the picture", x, 0, "100000000000");
        PictureLog y = plain();
        y.fill(0, 0, 0, 1);
        y.flush();
        y.fill(0, 1, 1, 1);
        y.damage(1);
        check.due("needs a damaged one that is not flushed", y.page(0, 5), 1);
        y.crash();
        check.due("that one was lost", y.page(0, 4), 0);
        check.due("needs none", y.page(0, 5), 0);
        check.cells("up to the flushed one", y, 0, "100000000000");
        PictureLog z = plain();
        z.fill(0, 0, 0, 1);
        z.flush();
        z.damage(0);
        check.due("not doubtful ahead of a crash", z.page(0, 4), 0);
        z.store(0);
        z.crash();
        check.due("a damaged one that is older than the copy", z.page(0, 4), 0);
        check.cells("from the copy", z, 0, "100000000000");
    }

    private static void pictureEndsDoubt() {
        check.sentence("A picture of a page that is logged, too, makes it not doubtful any more.");
        PictureLog x = changesWithDamaged("1");
        x.renew(1);
        check.due("a picture of another page", x.page(0, 4), 1);
        x.renew(0);
        check.due("a picture of the page", x.page(0, 4), 0);
        check.due("doubtful pages", x.count(8), 0);
        x.crash();
        check.due("the picture was lost", x.page(0, 4), 1);
        x.undo();
        x.undo();
        check.due("undone", x.page(0, 4), 1);
        x.setWay(1);
        x.fill(0, 1, 1, 1);
        check.due("a change as a picture", x.page(0, 4), 0);
        PictureLog y = changesWithDamaged("1");
        y.setWay(2);
        y.turn(0, 1);
        check.due("a change that is restored sooner as a picture", y.page(0, 4), 0);
        PictureLog z = changesWithDamaged("1");
        Check.read(z, "1p;0t1");
        check.due("orders without a picture of the page", z.page(0, 4), 1);
        Check.read(z, "0p");
        check.due("orders with one", z.page(0, 4), 0);
    }

    private static void changeLeavesDoubt() {
        check.sentence("A picture of a page that is logged, too, makes it not doubtful any more.");
        PictureLog x = changesWithDamaged("1");
        x.fill(0, 0, 11, 1);
        x.add(0, 0, 11, 1);
        x.turn(0, 1);
        Check.read(x, "0r0=123456789012");
        check.due("changes as they are", x.page(0, 4), 1);
        x.flush();
        check.due("a flush", x.page(0, 4), 1);
        x.trim();
        x.setRoom(200);
        x.setWay(2);
        check.due("other acts", x.page(0, 4), 1);
        check.due("no more room", x.setRoom(x.count(2)), 200);
        check.due("a picture that finds no room", x.renew(0), -3);
        check.due("a picture that found no room", x.page(0, 4), 1);
    }

    private static void storeNeedsFlushedEntries() {
        check.sentence("this needs that all entries of the page that the log holds are flushed");
        Consumer<PictureLog> made = Made.PLAIN.andThen(x -> {
            x.fill(0, 0, 0, 1);
            x.flush();
            x.fill(0, 1, 1, 1);
            x.fill(1, 0, 0, 1);
        });
        check.refused("store(0), the last one of it is not flushed", made, x -> x.store(0), -4);
        check.refused("store(1), the only one of it is not flushed", made, x -> x.store(1), -4);
        check.due("store(2), that has none", Told.made(made).store(2), 0);
        check.due("store(0), all flushed", Told.made(made.andThen(PictureLog::flush)).store(0), 2);
        Consumer<PictureLog> others = Made.PLAIN.andThen(x -> {
            x.fill(0, 0, 0, 1);
            x.flush();
            x.fill(1, 0, 0, 1);
        });
        check.due("store(0), those of others are not flushed", Told.made(others).store(0), 1);
        check.due("store(5) with an empty log", new PictureLog().store(5), 0);
    }

    private static void storedAsOfTheFlushed() {
        check.sentence("Its copy is as of the entry behind the last one that was flushed then");
        PictureLog x = plain();
        x.store(0);
        check.due("none was flushed", x.page(0, 3), 0);
        x.turn(1, 1);
        x.store(0);
        check.due("none was flushed, one is held", x.page(0, 3), 0);
        x.flush();
        check.due("not stored since", x.page(0, 3), 0);
        x.turn(1, 1);
        x.store(0);
        check.due("one of two was flushed", x.page(0, 3), 1);
        x.flush();
        x.store(0);
        check.due("both were flushed", x.page(0, 3), 2);
        x.store(1);
        x.trim();
        x.store(2);
        check.due("the flushed ones were dropped", x.page(2, 3), 2);
        x.turn(3, 1);
        x.crash();
        x.store(4);
        check.due("behind a crash", x.page(4, 3), 2);
        check.due("another page's copy", x.page(5, 3), 0);
        x.fill(4, 0, 0, 9);
        check.due("an entry with that number is needed", x.page(4, 2), 2);
    }

    private static void storeEndsDoubt() {
        check.sentence("A page is stored with the cells that it has now");
        PictureLog x = changesWithDamaged("1");
        check.due("store(0)", x.store(0), 3);
        check.sentence("it is not doubtful any more");
        check.due("page(0, 4)", x.page(0, 4), 0);
        check.due("page(0, 5)", x.page(0, 5), 0);
        check.due("doubtful pages", x.count(8), 0);
        check.tells("stored(0, cell)", x, (y, cell) -> y.stored(0, cell), 1, 0, 0);
        x.crash();
        check.due("behind a crash", x.page(0, 4), 0);
        PictureLog z = changesWithDamaged("1");
        z.fill(0, 3, 3, 1);
        check.due("store(0), not possible", z.store(0), -4);
        check.due("doubtful all the same", z.page(0, 4), 1);
        z.store(1);
        check.due("another page stored", z.page(0, 4), 1);
    }

    private static void storeTellsWhatIsNeededLess() {
        check.sentence("Returns how many entries of the log are needed less by that");
        PictureLog x = plain();
        x.fill(0, 0, 0, 1);
        x.renew(0);
        x.fill(0, 0, 0, 2);
        x.fill(1, 0, 0, 2);
        x.flush();
        x.fill(1, 0, 0, 3);
        check.due("needed", x.count(5), 4);
        check.due("the picture and the change behind it", x.store(0), 2);
        check.due("needed", x.count(5), 2);
        check.due("stored again", x.store(0), 0);
        check.due("it is an act", x.count(12), 4);
        check.due("a page without entries", x.store(3), 0);
    }

    private static void ways() {
        check.sentence("Returns the previous one; BAD_VALUE; NONE if it is so already.");
        for (int before = 0; before <= 2; before++) {
            int way = before;
            Consumer<PictureLog> made = Made.RICH.andThen(x -> x.setWay(way));
            check.refused("setWay(" + way + ")", made, x -> x.setWay(way), -5);
            for (int after = 0; after <= 2; after++) {
                if (after != before) {
                    check.due("setWay(" + after + ")", Told.made(made).setWay(after), before);
                }
            }
            for (int bad : new int[] {Integer.MIN_VALUE, -1, 3, Integer.MAX_VALUE}) {
                check.refused("setWay(" + bad + ")", made, x -> x.setWay(bad), -2);
            }
        }
    }

    /** Ten entries of the size 4; the first five may be dropped. */
    private static final Consumer<PictureLog> TEN = x -> {
        x.setWay(0);
        for (int i = 0; i < 10; i++) {
            x.fill(i < 5 ? 0 : 1, i, i, 1);
        }
        x.flush();
        x.store(0);
    };

    private static void rooms() {
        check.sentence("if the log holds more, entries are dropped, the oldest one first, as long as it is flushed and "
                + "not needed, until the log does not hold more");
        int[][] rooms = {{41, 0}, {40, 0}, {39, 1}, {37, 1}, {36, 1}, {35, 2}, {33, 2}, {32, 2}, {31, 3}, {30, 3}};
        for (int[] room : rooms) {
            PictureLog x = Told.made(TEN);
            check.due("setRoom(" + room[0] + ")", x.setRoom(room[0]), 100);
            check.due("dropped", x.count(1), 10 - room[1]);
            check.due("the oldest one", x.entry(room[1], 0), 0);
            check.due("the one ahead", x.entry(room[1] - 1, 0), -1);
            check.due("the room", x.count(3), room[0]);
            x.undo();
            check.due("undone: held", x.count(1), 10);
            check.due("undone: the room", x.count(3), 100);
        }
        check.sentence("Returns the previous one; BAD_VALUE; NOT_POSSIBLE if the log would hold more all the same; NONE "
                + "if it is so already.");
        check.refused("setRoom(100)", TEN, x -> x.setRoom(100), -5);
        check.refused("setRoom(80)", Made.RICH, x -> x.setRoom(80), -5);
        check.refused("setRoom(30), taken wholly", Made.PACKED, x -> x.setRoom(30), -5);
        check.due("setRoom(31), taken wholly", Told.made(Made.PACKED).setRoom(31), 30);
        check.refused("setRoom(29) ahead of not possible", Made.PACKED, x -> x.setRoom(29), -2);
        for (int bad : new int[] {Integer.MIN_VALUE, -1, 0, 29, 301, Integer.MAX_VALUE}) {
            check.refused("setRoom(" + bad + ")", TEN, x -> x.setRoom(bad), -2);
        }
        PictureLog x = new PictureLog();
        check.due("setRoom(300)", x.setRoom(300), 100);
        check.due("setRoom(30)", x.setRoom(30), 300);
        check.due("setRoom(30)", x.setRoom(30), -5);
        check.due("setRoom(300)", x.setRoom(300), 30);
    }

    private static void roomsNotPossible() {
        check.sentence("NOT_POSSIBLE if the log would hold more all the same");
        Consumer<PictureLog> fifteen = TEN.andThen(x -> {
            for (int i = 0; i < 5; i++) {
                x.fill(2, i, i, 1);
            }
        });
        check.refused("setRoom(39), 40 may not be dropped", fifteen, x -> x.setRoom(39), -4);
        check.due("setRoom(40)", Told.made(fifteen).setRoom(40), 100);
        check.due("all five are dropped", Told.made(fifteen.andThen(x -> x.setRoom(40))).count(1), 10);
        Consumer<PictureLog> notFlushed = Made.PLAIN.andThen(x -> {
            x.fill(0, 0, 0, 1);
            x.renew(0);
            for (int i = 0; i < 6; i++) {
                x.fill(1, i, i, 1);
            }
        });
        check.due("sizes together", Told.made(notFlushed).count(2), 34);
        check.refused("setRoom(33), not needed but not flushed", notFlushed, x -> x.setRoom(33), -4);
        check.due("setRoom(34)", Told.made(notFlushed).setRoom(34), 100);
        Consumer<PictureLog> flushed = notFlushed.andThen(PictureLog::flush);
        check.due("setRoom(33), flushed", Told.made(flushed).setRoom(33), 100);
        check.due("setRoom(30), flushed", Told.made(flushed).setRoom(30), 100);
        Consumer<PictureLog> behind = flushed.andThen(x -> x.store(1)).andThen(PictureLog::trim);
        check.due("sizes together", Told.made(behind).count(2), 30);
        Consumer<PictureLog> more = behind.andThen(x -> x.turn(2, 1));
        check.refused("setRoom(32), the oldest one is needed", more, x -> x.setRoom(32), -4);
        check.due("setRoom(33)", Told.made(more).setRoom(33), 100);
    }

    private static void trims() {
        check.sentence("Drops entries from the log, the oldest one first, as long as the oldest one is flushed and not "
                + "needed.");
        check.refused("trim(), empty", Made.NEW, PictureLog::trim, -5);
        check.refused("trim(), emptied", Made.stored(0, ZEROS), PictureLog::trim, -5);
        Consumer<PictureLog> two = Made.PLAIN.andThen(x -> {
            x.fill(0, 0, 0, 1);
            x.renew(0);
        });
        check.refused("trim(), not needed but not flushed", two, PictureLog::trim, -5);
        check.due("trim(), flushed", Told.made(two.andThen(PictureLog::flush)).trim(), 1);
        Consumer<PictureLog> needed = two.andThen(PictureLog::flush).andThen(PictureLog::trim);
        check.refused("trim(), flushed but needed", needed, PictureLog::trim, -5);
        check.due("trim(), not needed any more", Told.made(needed.andThen(x -> x.store(0))).trim(), 1);
        check.refused("trim(), needed by the flushed ones", needed.andThen(x -> x.renew(0)), PictureLog::trim, -5);
        Consumer<PictureLog> between = Made.PLAIN.andThen(x -> {
            x.turn(0, 1);
            x.turn(1, 1);
            x.turn(0, 1);
            x.flush();
            x.store(0);
        });
        check.due("trim() up to a needed one", Told.made(between).trim(), 1);
        PictureLog x = Told.made(between.andThen(PictureLog::trim));
        check.due("the needed one", x.entry(1, 0), 1);
        check.due("behind it one that is not needed", x.entry(2, 4), 0);
        x.turn(4, 1);
        x.store(1);
        check.due("trim() up to one that is not flushed", x.trim(), 2);
        check.due("that one", x.entry(3, 0), 4);
        PictureLog y = plain();
        for (int i = 0; i < 33; i++) {
            y.turn(0, 1);
        }
        y.flush();
        y.store(0);
        check.due("trim() of all", y.trim(), 33);
        check.due("held", y.count(1), 0);
        check.due("sizes together", y.count(2), 0);
    }

    private static void damages() {
        check.sentence("Returns how many pages need a damaged entry then; UNKNOWN; NONE if it is damaged already.");
        for (int bad : new int[] {Integer.MIN_VALUE, -1, 0, 7, Integer.MAX_VALUE}) {
            check.refused("damage(" + bad + ")", Made.RICH, x -> x.damage(bad), -1);
        }
        check.refused("damage(0), empty", Made.NEW, x -> x.damage(0), -1);
        check.refused("damage(0), dropped", Made.stored(0, ZEROS), x -> x.damage(0), -1);
        check.refused("damage(3), damaged already", Made.RICH, x -> x.damage(3), -5);
        check.due("damage(1), not needed, beside page 1", Told.made(Made.RICH).damage(1), 1);
        check.due("damage(6), not flushed", Told.made(Made.RICH).damage(6), 2);
        for (int entry : List.of(1, 2, 4, 5, 6)) {
            check.due("damage(" + entry + ")", Told.made(Made.RICH).damage(entry) >= 0 ? 0 : 1, 0);
            Consumer<PictureLog> damaged = Made.RICH.andThen(x -> x.damage(entry));
            check.refused("damage(" + entry + ") again", damaged, x -> x.damage(entry), -5);
            check.due("entry(" + entry + ", 6)", Told.made(damaged).entry(entry, 6), 1);
        }
        PictureLog x = plain();
        x.turn(0, 1);
        x.renew(0);
        for (int page = 1; page < 6; page++) {
            x.turn(page, 1);
        }
        check.due("none needs it", x.damage(0), 0);
        for (int entry = 1; entry <= 6; entry++) {
            check.due("one page more", x.damage(entry), entry);
        }
        check.due("doubtful pages ahead of a crash", x.count(8), 0);
        x.crash();
        check.due("all were lost", x.count(8), 0);
        for (int page = 0; page < 6; page++) {
            x.turn(page, 1);
            check.due("entry(" + page + ", 6), given again", x.entry(page, 6), 0);
            x.damage(page);
        }
        x.flush();
        x.crash();
        check.due("doubtful pages", x.count(8), 6);
    }

    private static void damagedStaysAsItIs() {
        check.sentence("An entry can be damaged");
        PictureLog x = plain();
        x.fill(0, 2, 5, 1);
        x.add(1, 3, 9, 1);
        x.turn(2, 4);
        Check.read(x, "3r4=123");
        Check.read(x, "4r0=012345678901;4p");
        int[][] told = {{0, 1, 4, 8}, {1, 2, 4, 11}, {2, 3, 3, 15}, {3, 4, 6, 9}, {4, 4, 15, 27}, {4, 0, 14, 14}};
        for (int entry = 0; entry < told.length; entry++) {
            int damaged = entry;
            x.damage(entry);
            check.tells("entry(" + entry + ", what)", x, (y, what) -> y.entry(damaged, what), told[entry]);
            check.due("it is damaged", x.entry(entry, 6), 1);
        }
        int[] times = {13, 16, 20, 14, 14, 5};
        for (int page = 0; page < times.length; page++) {
            check.due("time to restore page " + page, x.page(page, 0), times[page]);
        }
        check.due("sizes together", x.count(2), 46);
        check.cells("the page stays, too", x, 0, "001111000000");
    }

    private static void crashes() {
        check.sentence("Lets all crash. This is an act.");
        PictureLog x = Told.made(Made.RICH);
        check.due("crash()", x.crash(), 2);
        check.due("states", x.count(12), 4);
        check.due("the way stays", x.count(4), 0);
        check.due("the room stays", x.count(3), 80);
        check.due("the text stays", x.count(13), 6);
        check.due("the copy stays", x.stored(0, 0), 1);
        check.due("changes so far stay", x.count(10), 6);
        check.due("pictures so far stay", x.count(9), 1);
        check.due("crashes so far", x.count(11), 2);
        check.due("undo()", x.undo(), 3);
        check.due("crashes so far, undone", x.count(11), 1);
        check.due("held", x.count(1), 6);
    }
}
