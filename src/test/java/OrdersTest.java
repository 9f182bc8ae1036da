/** Promises 6, 14 and 15: orders that are read from a text, and the text. */
public final class OrdersTest {
    private static final Check check = new Check();

    public static void main(String[] args) {
        faults();
        ordersAreDone();
        picturesAreCounted();
        allOrNone();
        longestText();
        typing();
        check.end();
    }

    private static void fault(String text, int place) {
        check.refused("fault of \"" + text + "\"", Made.typed(Made.NEW, text), PictureLog::readOrders, -100 - place);
    }

    private static void good(String text) {
        PictureLog x = new PictureLog();
        x.setRoom(300);
        check.holds("\"" + text + "\" is good", Check.read(x, text) >= 0);
    }

    private static void faults() {
        String[] good = {"0p", "5p", "0f0-0=0", "0f11-11=9", "0f1-1=1", "0f1-10=1", "0f10-11=1", "0f1-11=5",
            "0a0-11+9", "0a3-3+1", "0t1", "0t9", "0t10", "0t11", "0r0=1", "0r11=1", "0r1=12345678901",
            "0r0=000000000000", "0r10=12;1p", "0t1;0t10;0t11;0t2", "3p;3p"};
        for (String text : good) {
            good(text);
        }
        String[] early = {"", "0", "0f", "0f0", "0f1", "0f11", "0f0-", "0f0-3", "0f0-1", "0f0-3=", "0a0-3+", "0t",
            "0r", "0r3", "0r3=", "0p;", "0t11;", "0p;1", "0f5-11", "0f10-10"};
        for (String text : early) {
            fault(text, text.length());
        }
        Object[][] wrong = {
            {"6p", 0}, {";", 0}, {" 0p", 0}, {"p", 0}, {"/p", 0}, {":p", 0},
            {"0x", 1}, {"0P", 1}, {"00p", 1}, {"0;", 1},
            {"0pp", 2}, {"0p0", 2}, {"0p ", 2}, {"0p;;", 3}, {"0p;6", 3}, {"0p,", 2},
            {"0fx", 2}, {"0f-", 2}, {"0f00-1=1", 3}, {"0f01-1=1", 3}, {"0f12-12=1", 3}, {"0f20", 3},
            {"0f111-11=1", 4}, {"0f100", 4}, {"0f3=", 3}, {"0f3+", 3}, {"0f3--", 4},
            {"0f5-3=1", 4}, {"0f5-3", 4}, {"0f5-1", 4}, {"0f5-1=1", 4}, {"0f5-1x", 4}, {"0f2-12=1", 4},
            {"0f2-1", 4}, {"0f1-0", 4}, {"0f11-10", 6}, {"0f11-10=1", 6}, {"0f11-1", 5}, {"0f11-1=2", 5},
            {"0f10-9", 5}, {"0f11-0", 5}, {"0f11-2", 5}, {"0f1-12=1", 5}, {"0f0-00=1", 5}, {"0f0-01=1", 5},
            {"0f0-3+1", 5}, {"0f0-3=a", 6}, {"0f0-3=:", 6}, {"0f0-3=/", 6}, {"0f0-3=;", 6}, {"0r3=:", 4}, {"0r3=1:", 5}, {"0t1:", 3}, {"0f0-3=12", 7}, {"0f0-3=-", 6}, {"0f0-11=12", 8},
            {"0a0-3=1", 5}, {"0a0-3+0", 6}, {"0a0-3+x", 6}, {"0a0-3+19", 7}, {"0a4-3+1", 4}, {"0a11-1", 5},
            {"0t0", 2}, {"0t01", 2}, {"0t12", 3}, {"0t20", 3}, {"0t110", 4}, {"0t;", 2}, {"0t1x", 3},
            {"0r;", 2}, {"0r3;", 3}, {"0r3-", 3}, {"0r3=;", 4}, {"0r3=x", 4}, {"0r00=1", 3}, {"0r12=1", 3},
            {"0r10=123", 7}, {"0r11=12", 6}, {"0r0=1234567890123", 16}, {"0r3=1-", 5}, {"0r3=1;x", 6},
            {"0p;0f5-3=1", 7}, {"0t11;1a9-8", 9}};
        for (Object[] row : wrong) {
            fault((String) row[0], (Integer) row[1]);
        }
    }

    private static void ordersAreDone() {
        PictureLog x = new PictureLog();
        x.setWay(0);
        check.due("all kinds", Check.read(x, "0f2-5=7;0a4-11+5;0t3;0r10=89;1r0=123456789012"), 0);
        check.cells("done", x, 0, "555007722589");
        check.cells("done", x, 1, "123456789012");
        int[][] told = {{0, 1, 4, 8}, {0, 2, 4, 12}, {0, 3, 3, 15}, {0, 4, 5, 7}, {1, 4, 15, 27}};
        for (int i = 0; i < told.length; i++) {
            for (int what = 0; what < 4; what++) {
                check.due("entry(" + i + ", " + what + ")", x.entry(i, what), told[i][what]);
            }
        }
        check.due("one act", x.count(12), 2);
        check.due("the text stays", x.count(13), 45);
        check.due("again", x.readOrders(), 0);
        check.due("entries", x.count(0), 10);
        x.crash();
        check.cells("lost", x, 1, "000000000000");
        x.undo();
        x.flush();
        x.crash();
        check.cells("a row comes back", x, 1, "123456789012");
        x.undo();
        x.undo();
        x.undo();
        check.due("undone as one", x.count(0), 5);
    }

    private static void picturesAreCounted() {
        PictureLog x = new PictureLog();
        check.due("two renewals and a picture", Check.read(x, "0p;1p;2f0-11=3"), 3);
        x.setWay(0);
        check.due("a renewal alone", Check.read(x, "0t1;0p;0t1"), 1);
        check.due("its kind", x.entry(4, 1), 0);
        x.setWay(2);
        check.due("a row as it is, 5 and 5 against 10", rowBesideACopy(x, "5r11=2"), 0);
        check.due("its kind", x.entry(x.count(0) - 1, 1), 4);
        check.due("its size", x.entry(x.count(0) - 1, 2), 4);
        check.due("its time", x.entry(x.count(0) - 1, 3), 5);
        x.undo();
        check.due("a row of two, 5 and 7 against 10", rowBesideACopy(x, "5r10=22"), 1);
        check.due("its kind", x.entry(x.count(0) - 1, 1), 0);
    }

    /** The page 5 is in the store with three runs, so that one behind makes four. */
    private static int rowBesideACopy(PictureLog x, String text) {
        x.fill(5, 0, 11, 0);
        x.fill(5, 2, 2, 1);
        x.flush();
        x.store(5);
        return Check.read(x, text);
    }

    private static void allOrNone() {
        PictureLog x = new PictureLog();
        x.setWay(0);
        x.setRoom(30);
        x.fill(0, 0, 3, 1);
        x.flush();
        x.store(0);
        Check.type(x, "1r0=123456789012;2t1;3r0=1234567890");
        check.due("a last order without room", x.readOrders(), -3);
        check.due("the oldest one is held still", x.entry(0, 0), 0);
        x.clearText();
        Check.type(x, "1r0=123456789012;2t1;3r0=12345678x");
        check.due("a fault behind good orders", x.readOrders(), -100 - 33);
        check.due("a text that ends too early", Check.read(x, "1r0=123456789012;2t1;3r0=123456789;"), -135);
        check.due("just enough room", Check.read(x, "1r0=123456789012;2t1;3r0=123456789"), 0);
        check.due("sizes", x.count(2), 30);
        check.due("dropped", x.entry(0, 0), -1);
    }

    private static void longestText() {
        PictureLog x = new PictureLog();
        StringBuilder text = new StringBuilder("0p");
        for (int i = 1; i < 20; i++) {
            text.append(";").append(i % 6).append("p");
        }
        check.due("twenty orders", Check.read(x, text.toString()), 20);
        check.due("their sizes", x.count(2), 80);
        check.due("one sign more", x.type(';'), 60);
        check.due("its fault", x.readOrders(), -160);
        check.due("no room in the text", x.type('0'), -3);
        check.due("its length", x.count(13), 60);
    }

    private static void typing() {
        PictureLog x = new PictureLog();
        for (int i = 1; i <= 60; i++) {
            check.due("type", x.type('0'), i);
        }
        check.due("type, full", x.type('p'), -3);
        check.due("type, full", x.type((char) 65535), -3);
        check.due("no states by typing", x.count(12), 0);
        check.due("clearText", x.clearText(), 60);
        check.due("clearText again", x.clearText(), 0);
        check.due("length", x.count(13), 0);
        check.due("no states by clearing", x.count(12), 0);
        check.due("type", x.type('2'), 1);
        check.due("type", x.type('p'), 2);
        check.due("only what was typed since", x.readOrders(), 1);
        x.undo();
        check.due("undo leaves the text", x.count(13), 2);
        String whole = "0f1-11=4";
        for (int kept = 0; kept < whole.length(); kept++) {
            Check.read(x, whole);
            check.due("what was cleared is gone", Check.read(x, whole.substring(0, kept)), -100 - kept);
        }
    }
}
