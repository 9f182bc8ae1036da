/** "An object is used for at most 512 calls after it has been made": the last of them still has its due answer. */
public final class LongLifeTest {
    private static final int MOST_CALLS = 512;
    private static final Check check = new Check();

    public static void main(String[] args) {
        check.sentence("An object is used for at most 512 calls after it has been made");
        fills();
        turnsOfAllPages();
        orders();
        damagesAndCrashes();
        typingAlone();
        crashesAlone();
        changesAlone();
        untouched();
        numbersBeyondTheRoom();
        check.end();
    }

    private static void fills() {
        PictureLog x = new PictureLog();
        x.setWay(0);
        int calls = 1;
        int entries = 0;
        while (calls <= MOST_CALLS - 3) {
            check.due("fill", x.fill(entries % 6, entries % 12, 11, entries % 10), 1);
            check.due("flush", x.flush(), 1);
            check.due("store", x.store(entries % 6), 1);
            entries++;
            calls += 3;
        }
        check.due("calls", calls, 511);
        check.due("the 512th call", x.count(0), entries);
    }

    private static void turnsOfAllPages() {
        PictureLog x = new PictureLog();
        for (int i = 0; i < MOST_CALLS / 2; i++) {
            check.due("turn", x.turn(i % 6, 1 + i % 11), 0);
            check.due("flush", x.flush(), 1);
        }
        PictureLog y = new PictureLog();
        for (int i = 0; i < MOST_CALLS - 1; i++) {
            check.due("renew", y.renew(0), i < 25 ? i : -3);
        }
        check.due("the 512th call", y.count(9), 25);
    }

    private static void orders() {
        PictureLog x = new PictureLog();
        x.setRoom(300);
        StringBuilder text = new StringBuilder("0p");
        for (int i = 1; i < 20; i++) {
            text.append(";").append(i % 6).append("p");
        }
        Check.type(x, text.toString());
        int calls = 1 + text.length();
        int entries = 0;
        while (calls <= MOST_CALLS - 3) {
            check.due("readOrders", x.readOrders(), 20);
            check.due("flush", x.flush(), 20);
            entries += 20;
            calls += 2;
        }
        check.due("calls", calls, 510);
        check.due("pictures so far", x.count(9), entries);
        check.due("the 512th call", x.entry(entries - 1, 0), 1);
    }

    private static void damagesAndCrashes() {
        PictureLog x = new PictureLog();
        x.setWay(0);
        x.fill(0, 0, 11, 1);
        x.flush();
        x.store(0);
        for (int round = 0; round < 56; round++) {
            check.due("add", x.add(0, 0, 11, 1), 2);
            check.due("damage", x.damage(1), 1);
            check.due("crash", x.crash(), 1);
            check.due("undo", x.undo(), 3);
            check.due("undo", x.undo(), 2);
            x.undo();
            x.undo();
            check.due("crash", x.crash(), 0);
        }
        check.due("value", x.cell(0, 0), 1);
        check.due("doubtful", x.page(0, 4), 0);
        check.due("the next entry", x.count(0), 1);
        check.due("the 511th call", x.fill(0, 5, 5, 5), 1);
    }

    private static void typingAlone() {
        PictureLog x = new PictureLog();
        for (int i = 0; i < MOST_CALLS; i++) {
            check.due("type", x.type('0'), i < 60 ? i + 1 : -3);
        }
    }

    private static void crashesAlone() {
        PictureLog x = new PictureLog();
        for (int i = 1; i < MOST_CALLS; i++) {
            check.due("crash", x.crash(), 0);
        }
        check.due("the 512th call", x.count(11), 511);
    }

    private static void changesAlone() {
        PictureLog x = new PictureLog();
        x.setWay(0);
        for (int i = 0; i < 170; i++) {
            check.due("turn", x.turn(5, 1), 3);
            check.due("flush", x.flush(), 1);
            check.due("store", x.store(5), 1);
        }
        check.due("the 512th call", x.count(10), 170);
    }

    private static void untouched() {
        PictureLog x = new PictureLog();
        for (int i = 1; i < MOST_CALLS; i++) {
            check.due("count", x.count(3), 100);
        }
        check.due("the 512th call", x.fill(5, 11, 11, 9), 0);
    }

    /** Entries keep their numbers, and the numbers go far beyond all that the log could ever hold. */
    private static void numbersBeyondTheRoom() {
        PictureLog x = new PictureLog();
        x.setWay(0);
        x.setRoom(300);
        Check.type(x, "0p;1p;2p;3p;4p;5p;0p;1p;2p;3p;4p;5p;0p;1p;2p;3p;4p;5p;0p;1p");
        for (int i = 0; i < 20; i++) {
            check.due("readOrders()", x.readOrders(), 20);
            check.due("flush()", x.flush(), 20);
        }
        for (int page = 0; page < 6; page++) {
            check.due("store()", x.store(page), 1);
        }
        check.due("all that the log holds is dropped", x.trim(), 75);
        check.due("fill(1, 0, 3, 5)", x.fill(1, 0, 3, 5), 1);
        check.due("turn(1, 1)", x.turn(1, 1), 3);
        check.due("renew(2)", x.renew(2), 402);
        check.tells("page 1", x, (y, what) -> y.page(1, what), 28, 2, 400, 400, 0, 0, 8);
        check.tells("page 2", x, (y, what) -> y.page(2, what), 4, 1, 402, 400, 0, 0, 4);
        check.tells("entry 401", x, (y, what) -> y.entry(401, what), 1, 3, 3, 15, 1, 0, 0);
        check.tells("count", x, PictureLog::count, 403, 3, 11, 300, 0, 3, 3, 52, 0, 401, 2, 0, 4, 59);
        check.cellsAsOf(x, 1, 400, "555500000000");
        check.cellsAsOf(x, 1, 402, "055550000000");
        check.due("not flushed", x.store(1), -4);
        check.due("another page", x.store(3), 0);
        check.due("flush()", x.flush(), 3);
        check.due("damage(401)", x.damage(401), 1);
        check.due("a damaged entry", x.asOf(1, 401, 0), -4);
        check.due("crash()", x.crash(), 0);
        check.cells("ahead of the damaged entry", x, 1, "555500000000");
        check.due("doubtful", x.page(1, 4), 1);
        check.due("store(1)", x.store(1), 2);
        check.due("trim()", x.trim(), 2);
        check.due("the oldest one", x.entry(402, 4), 1);
    }
}
