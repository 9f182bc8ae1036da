/** Promises 7 to 13: the way, the room, flushing, storing, trimming, damage and crashes. */
public final class LogAndStoreTest {
    private static final Check check = new Check();

    public static void main(String[] args) {
        way();
        room();
        roomDropsNoMoreThanItMust();
        flush();
        store();
        storeWithOthersNotFlushed();
        trim();
        trimKeepsWhatACrashWouldNeed();
        damage();
        crash();
        crashThroughSeveralDamagedEntries();
        crashWithADroppedPicture();
        crashBehindDroppedEntries();
        doubtIsEnded();
        numbersAreGivenAgain();
        highNumbers();
        check.end();
    }

    private static PictureLog withWay(int way) {
        PictureLog x = new PictureLog();
        x.setWay(way);
        return x;
    }

    private static void way() {
        PictureLog x = new PictureLog();
        check.due("setWay(2)", x.setWay(2), -5);
        check.due("setWay(3)", x.setWay(3), -2);
        check.due("setWay(-1)", x.setWay(-1), -2);
        check.due("setWay(least)", x.setWay(Integer.MIN_VALUE), -2);
        check.due("setWay(0)", x.setWay(0), 2);
        check.due("setWay(1)", x.setWay(1), 0);
        check.due("setWay(1)", x.setWay(1), -5);
        check.due("setWay(2)", x.setWay(2), 1);
        check.due("states", x.count(12), 3);
        check.due("way", x.count(4), 2);
    }

    private static void room() {
        PictureLog x = withWay(0);
        check.due("setRoom(29)", x.setRoom(29), -2);
        check.due("setRoom(301)", x.setRoom(301), -2);
        check.due("setRoom(greatest)", x.setRoom(Integer.MAX_VALUE), -2);
        check.due("setRoom(100)", x.setRoom(100), -5);
        check.due("setRoom(300)", x.setRoom(300), 100);
        for (int i = 0; i < 100; i++) {
            check.due("turn " + i, x.turn(i % 6, 1), 3);
        }
        check.due("held", x.count(1), 100);
        check.due("sizes", x.count(2), 300);
        check.due("one more turn", x.turn(0, 1), -3);
        check.due("setRoom(299), nothing flushed", x.setRoom(299), -4);
        x.flush();
        check.due("setRoom(299), all needed", x.setRoom(299), -4);
        for (int page = 0; page < 6; page++) {
            x.store(page);
        }
        check.due("setRoom(31)", x.setRoom(31), 300);
        check.due("held", x.count(1), 10);
        check.due("sizes", x.count(2), 30);
        check.due("setRoom(30)", x.setRoom(30), 31);
        check.due("held", x.count(1), 10);
    }

    private static void roomDropsNoMoreThanItMust() {
        PictureLog x = withWay(0);
        for (int i = 0; i < 10; i++) {
            x.fill(i < 5 ? 0 : 1, i, i, 1);
        }
        x.flush();
        x.store(0);
        check.due("setRoom(33)", x.setRoom(33), 100);
        check.due("held", x.count(1), 8);
        check.due("sizes", x.count(2), 32);
        check.due("setRoom(32)", x.setRoom(32), 33);
        check.due("held", x.count(1), 8);
        x.undo();
        x.undo();
        x.undo();
        check.due("not stored", x.page(0, 3), 0);
        check.due("all are needed", x.setRoom(39), -4);
        check.due("just enough", x.setRoom(40), 100);
        PictureLog y = withWay(0);
        y.fill(0, 0, 0, 1);
        y.flush();
        y.store(0);
        for (int i = 0; i < 10; i++) {
            y.fill(1, i, i, 1);
        }
        check.due("the first alone may go", y.setRoom(39), -4);
        check.due("the first is held still", y.entry(0, 0), 0);
        check.due("the first goes", y.setRoom(40), 100);
        check.due("the first is gone", y.entry(0, 0), -1);
    }

    private static void flush() {
        PictureLog x = withWay(0);
        check.due("flush, empty", x.flush(), -5);
        x.turn(0, 1);
        x.turn(1, 1);
        check.due("not flushed", x.entry(1, 5), 0);
        check.due("not flushed", x.count(6), 2);
        check.due("flush", x.flush(), 2);
        check.due("flushed", x.entry(1, 5), 1);
        check.due("flush again", x.flush(), -5);
        x.turn(0, 1);
        check.due("flushed", x.entry(1, 5), 1);
        check.due("not flushed", x.entry(2, 5), 0);
        check.due("flush", x.flush(), 1);
        x.undo();
        check.due("not flushed again", x.entry(2, 5), 0);
    }

    private static void store() {
        PictureLog x = withWay(0);
        check.due("store with an empty log", x.store(3), 0);
        check.due("an act", x.count(12), 2);
        x.fill(0, 0, 5, 3);
        check.due("store(0), not flushed", x.store(0), -4);
        check.due("store(6)", x.store(6), -1);
        check.due("store(-1)", x.store(-1), -1);
        x.flush();
        x.turn(0, 1);
        check.due("store(0), one not flushed", x.store(0), -4);
        x.turn(1, 1);
        x.renew(0);
        x.turn(0, 1);
        x.flush();
        check.due("needed", x.page(0, 1), 2);
        check.due("store(0)", x.store(0), 2);
        check.due("as of", x.page(0, 3), 5);
        check.due("needed", x.page(0, 1), 0);
        check.due("the first needed", x.page(0, 2), -5);
        check.due("time", x.page(0, 0), 5);
        check.due("entry", x.entry(4, 4), 0);
        for (int cell = 0; cell < 12; cell++) {
            check.due("stored", x.stored(0, cell), cell >= 2 && cell <= 7 ? 3 : 0);
        }
        x.fill(0, 0, 11, 9);
        check.due("the copy stays", x.stored(0, 0), 0);
        x.crash();
        check.cells("from the copy", x, 0, "003333330000");
    }

    private static void storeWithOthersNotFlushed() {
        PictureLog x = withWay(0);
        x.fill(0, 0, 0, 1);
        x.fill(1, 0, 0, 1);
        x.flush();
        x.fill(1, 1, 1, 1);
        check.due("store(0)", x.store(0), 1);
        check.due("as of the flushed ones", x.page(0, 3), 2);
        check.due("page 0 behind that", x.fill(0, 3, 3, 4), 1);
        check.due("is needed", x.page(0, 2), 3);
        x.crash();
        check.due("the number is given again", x.fill(0, 5, 5, 5), 1);
        x.flush();
        x.crash();
        check.cells("the copy and the change behind", x, 0, "100005000000");
    }

    private static void trim() {
        PictureLog x = withWay(0);
        check.due("trim, empty", x.trim(), -5);
        x.fill(0, 0, 0, 1);
        x.fill(0, 1, 1, 1);
        x.fill(1, 0, 0, 1);
        x.fill(0, 2, 2, 1);
        x.renew(0);
        check.due("trim, none flushed", x.trim(), -5);
        x.flush();
        check.due("not needed behind a needed one", x.entry(3, 4), 0);
        check.due("trim", x.trim(), 2);
        check.due("the oldest one", x.entry(2, 1), 1);
        check.due("held", x.count(1), 3);
        check.due("trim, the oldest one is needed", x.trim(), -5);
        x.store(1);
        check.due("trim", x.trim(), 2);
        check.due("the picture is needed", x.count(1), 1);
        x.store(0);
        check.due("trim", x.trim(), 1);
        check.due("empty", x.count(1), 0);
        check.due("sizes", x.count(2), 0);
        check.due("the next entry", x.count(0), 5);
        check.due("the next one", x.renew(0), 5);
    }

    private static void trimKeepsWhatACrashWouldNeed() {
        PictureLog x = withWay(0);
        x.fill(0, 0, 0, 1);
        x.renew(0);
        x.flush();
        x.fill(0, 1, 1, 1);
        x.renew(0);
        check.due("needed by the page", x.page(0, 1), 1);
        check.due("the flushed picture is needed", x.entry(1, 4), 1);
        check.due("the change ahead of it is not", x.entry(0, 4), 0);
        check.due("the change behind it is not, it would be lost", x.entry(2, 4), 0);
        check.due("the latest picture is needed", x.entry(3, 4), 1);
        check.due("needed", x.count(5), 2);
        check.due("trim", x.trim(), 1);
        check.due("trim", x.trim(), -5);
        x.flush();
        check.due("needed", x.count(5), 1);
        check.due("trim", x.trim(), 2);
    }

    private static void damage() {
        PictureLog x = withWay(0);
        check.due("damage(0), empty", x.damage(0), -1);
        x.fill(0, 0, 0, 1);
        x.renew(0);
        x.fill(1, 0, 0, 1);
        x.flush();
        check.due("damage(3)", x.damage(3), -1);
        check.due("damage(-1)", x.damage(-1), -1);
        check.due("damage(least)", x.damage(Integer.MIN_VALUE), -1);
        check.due("damage(greatest)", x.damage(Integer.MAX_VALUE), -1);
        check.due("one that is not needed", x.damage(0), 0);
        check.due("it is damaged", x.entry(0, 6), 1);
        check.due("damage(0) again", x.damage(0), -5);
        check.due("damage(2)", x.damage(2), 1);
        check.due("damage(1)", x.damage(1), 2);
        check.due("page(0, 5)", x.page(0, 5), 1);
        check.due("page(1, 5)", x.page(1, 5), 1);
        check.due("page(2, 5)", x.page(2, 5), 0);
        check.due("no doubt ahead of a crash", x.count(8), 0);
        x.undo();
        check.due("undone", x.entry(1, 6), 0);
        x.trim();
        check.due("a dropped one", x.damage(0), -1);
        x.fill(3, 0, 0, 1);
        check.due("one that is not flushed", x.damage(3), 2);
    }

    private static void crash() {
        PictureLog x = withWay(0);
        x.fill(0, 0, 3, 1);
        x.flush();
        x.fill(0, 2, 5, 2);
        x.turn(1, 1);
        check.due("crash", x.crash(), 2);
        check.cells("restored", x, 0, "111100000000");
        check.due("the next entry", x.count(0), 1);
        check.due("held", x.count(1), 1);
        check.due("crashes", x.count(11), 1);
        check.due("changes so far", x.count(10), 3);
        check.due("crash", x.crash(), 0);
        check.due("an act", x.undo() >= 0 ? x.count(11) : -9, 1);
        x.undo();
        check.due("undone", x.count(1), 3);
        check.cells("undone", x, 0, "112222000000");
    }

    private static void crashThroughSeveralDamagedEntries() {
        PictureLog x = withWay(0);
        x.fill(0, 0, 0, 1);
        x.renew(0);
        x.fill(0, 1, 1, 2);
        x.fill(0, 2, 2, 3);
        x.renew(0);
        x.fill(0, 3, 3, 4);
        x.fill(1, 0, 0, 5);
        x.flush();
        x.damage(3);
        check.due("a damaged one that is not needed", x.crash(), 0);
        check.due("no doubt", x.page(0, 4), 0);
        check.cells("no doubt", x, 0, "123400000000");
        x.damage(5);
        x.crash();
        check.cells("behind the picture", x, 0, "123000000000");
        check.due("doubtful", x.page(0, 4), 1);
        check.due("doubtful", x.count(8), 1);
        check.due("the log stays", x.count(1), 7);
        check.due("it needs what it needed", x.page(0, 1), 2);
        x.damage(4);
        x.crash();
        check.cells("ahead of the damaged picture, and of 3", x, 0, "120000000000");
        x.damage(2);
        x.crash();
        check.cells("the first picture alone", x, 0, "100000000000");
        x.damage(1);
        x.crash();
        check.cells("ahead of the first picture, from the copy and 0", x, 0, "100000000000");
        x.damage(0);
        x.crash();
        check.cells("from the copy", x, 0, "000000000000");
        check.cells("another page", x, 1, "500000000000");
        check.due("doubtful", x.count(8), 1);
    }

    private static void crashWithADroppedPicture() {
        PictureLog x = withWay(0);
        x.fill(0, 0, 0, 1);
        x.renew(0);
        x.fill(0, 1, 1, 2);
        x.flush();
        x.trim();
        x.damage(1);
        x.crash();
        check.cells("the change behind a damaged picture goes too", x, 0, "000000000000");
        check.due("doubtful", x.page(0, 4), 1);
        check.due("a change of a doubtful page", x.fill(0, 5, 5, 7), 1);
        check.due("leaves it doubtful", x.page(0, 4), 1);
        x.flush();
        x.crash();
        check.cells("all behind the damaged one", x, 0, "000000000000");
    }

    private static void crashBehindDroppedEntries() {
        PictureLog x = withWay(0);
        x.fill(0, 0, 0, 1);
        x.fill(0, 11, 11, 2);
        x.renew(0);
        x.flush();
        x.trim();
        x.fill(0, 4, 4, 3);
        x.fill(1, 4, 4, 3);
        check.due("crash", x.crash(), 2);
        check.due("held", x.count(1), 1);
        check.due("the next entry", x.count(0), 3);
        check.cells("the picture, up to its last cell", x, 0, "100000000002");
    }

    /** Numbers go on far beyond what the log can hold at once. */
    private static void highNumbers() {
        PictureLog x = withWay(0);
        x.setRoom(30);
        for (int i = 0; i < 120; i++) {
            check.due("turn " + i, x.turn(i % 6, 1), 3);
            x.flush();
            x.store(i % 6);
        }
        check.due("the next entry", x.count(0), 120);
        x.turn(2, 1);
        check.due("damage(120)", x.damage(120), 1);
        check.due("damaged", x.entry(120, 6), 1);
        check.due("another one is not", x.entry(119, 6), 0);
    }

    private static PictureLog doubtful() {
        PictureLog x = withWay(0);
        x.fill(0, 0, 0, 1);
        x.fill(0, 1, 1, 2);
        x.flush();
        x.damage(1);
        x.crash();
        check.due("doubtful", x.page(0, 4), 1);
        return x;
    }

    private static void doubtIsEnded() {
        PictureLog x = doubtful();
        x.renew(0);
        check.due("by renewing", x.page(0, 4), 0);
        x.crash();
        check.due("and again, the picture was lost", x.page(0, 4), 1);
        x.setWay(1);
        x.fill(0, 4, 4, 4);
        check.due("by a picture of a change", x.page(0, 4), 0);
        check.due("no damaged one is needed", x.page(0, 5), 0);
        PictureLog y = doubtful();
        check.due("store", y.store(0), 2);
        check.due("by storing", y.page(0, 4), 0);
        check.due("the cells as they are", y.stored(0, 0) * 10 + y.stored(0, 1), 10);
        y.crash();
        check.due("none is needed", y.page(0, 4), 0);
        PictureLog z = doubtful();
        z.renew(1);
        check.due("not by a picture of another page", z.page(0, 4), 1);
    }

    private static void numbersAreGivenAgain() {
        PictureLog x = withWay(0);
        x.fill(0, 0, 0, 1);
        x.damage(0);
        x.crash();
        check.due("lost", x.entry(0, 0), -1);
        check.due("not doubtful", x.page(0, 4), 0);
        check.due("renew(2)", x.renew(2), 0);
        check.due("not damaged", x.entry(0, 6), 0);
        check.due("not flushed", x.entry(0, 5), 0);
    }
}
