/** Promises 16 to 18: undo, keep and restore. */
public final class HistoryTest {
    private static final Check check = new Check();

    public static void main(String[] args) {
        undo();
        fourStates();
        everyActIsRecorded();
        nothingElseIsRecorded();
        snapshot();
        stateIsWhole();
        check.end();
    }

    private static void undo() {
        PictureLog x = new PictureLog();
        int[] before = Told.by(x);
        check.refused("undo, empty", x, before, x.undo(), -5);
        x.fill(0, 0, 3, 1);
        x.fill(0, 0, 3, 2);
        check.due("undo", x.undo(), 1);
        check.cells("undone", x, 0, "111100000000");
        check.due("undo", x.undo(), 0);
        String other = Told.difference(before, Told.by(x));
        check.holds("as at first, but: " + other, other == null);
        check.due("undo", x.undo(), -5);
    }

    private static void fourStates() {
        PictureLog x = new PictureLog();
        for (int value = 1; value <= 6; value++) {
            x.fill(0, 0, 11, value);
            check.due("states", x.count(12), Math.min(value, 4));
        }
        for (int left = 3; left >= 0; left--) {
            check.due("undo", x.undo(), left);
            check.due("value", x.cell(0, 0), left + 2);
        }
        check.due("undo", x.undo(), -5);
        check.due("value", x.cell(0, 0), 2);
        x.fill(0, 0, 11, 9);
        check.due("undo behind a new act", x.undo(), 0);
        check.due("value", x.cell(0, 0), 2);
        for (int round = 0; round < 3; round++) {
            for (int value = 0; value < 7; value++) {
                x.fill(0, 0, 11, value);
            }
            check.due("an act that is refused leaves the history", x.setWay(2), -5);
            check.due("an act that is refused leaves the history", x.damage(x.count(0)), -1);
            for (int left = 3; left >= 0; left--) {
                check.due("undo in a later round", x.undo(), left);
                check.due("value", x.cell(0, 0), left + 2);
            }
        }
    }

    private static void everyActIsRecorded() {
        for (int act = 0; act < 15; act++) {
            PictureLog x = ready();
            if (act == 14) {
                x.undo();
            }
            int states = x.count(12);
            int[] before = Told.by(x);
            int answer = doAct(x, act);
            check.holds("act " + act + " is done: " + answer, answer >= 0);
            check.due("act " + act + " is recorded", x.count(12), states + 1);
            check.due("act " + act + " is undone", x.undo(), states);
            String other = Told.difference(before, Told.by(x));
            check.holds("act " + act + " is undone, but: " + other, other == null);
        }
    }

    /** An object in which every act but a flush is possible, and whose history has room for one more. */
    private static PictureLog ready() {
        PictureLog x = new PictureLog();
        x.setWay(0);
        Check.read(x, "0t1;1f0-3=4;0p");
        x.flush();
        x.keep();
        return x;
    }

    private static int doAct(PictureLog x, int act) {
        switch (act) {
            case 0: return x.fill(1, 0, 0, 1);
            case 1: return x.add(1, 0, 0, 1);
            case 2: return x.turn(1, 1);
            case 3: return x.renew(1);
            case 4: return x.readOrders();
            case 5: return x.setWay(1);
            case 6: return x.setRoom(40);
            case 7: return x.setRoom(300);
            case 8: return x.store(4);
            case 9: return x.store(1);
            case 10: return x.trim();
            case 11: return x.damage(0);
            case 12: return x.restore();
            case 13: return x.crash();
            default: return x.flush();
        }
    }

    private static void nothingElseIsRecorded() {
        PictureLog x = new PictureLog();
        x.type('0');
        x.clearText();
        x.keep();
        x.undo();
        x.setWay(2);
        x.setRoom(100);
        x.flush();
        x.trim();
        x.damage(0);
        x.fill(6, 0, 0, 0);
        x.readOrders();
        check.due("states", x.count(12), 0);
    }

    private static void snapshot() {
        PictureLog x = new PictureLog();
        int[] before = Told.by(x);
        check.refused("restore, none", x, before, x.restore(), -5);
        check.refused("keep", x, before, x.keep(), 0);
        x.fill(0, 0, 11, 4);
        x.fill(0, 0, 11, 5);
        check.due("keep, in place of the one that was", x.keep(), 2);
        x.fill(0, 0, 11, 6);
        check.due("restore", x.restore(), 2);
        check.due("value", x.cell(0, 0), 5);
        check.due("recorded", x.count(12), 4);
        check.due("undo", x.undo(), 3);
        check.due("value", x.cell(0, 0), 6);
        x.undo();
        x.undo();
        x.undo();
        check.due("value", x.cell(0, 0), 0);
        check.due("it stays", x.restore(), 2);
        check.due("value", x.cell(0, 0), 5);
        x.fill(0, 0, 11, 7);
        check.due("and stays", x.restore(), 2);
        check.due("value", x.cell(0, 0), 5);
        x.undo();
        check.due("value", x.cell(0, 0), 7);
    }

    private static void stateIsWhole() {
        PictureLog x = new PictureLog();
        x.setWay(0);
        x.setRoom(50);
        x.fill(0, 0, 3, 1);
        x.fill(0, 1, 3, 2);
        x.renew(0);
        x.fill(1, 1, 3, 2);
        x.flush();
        x.store(1);
        x.trim();
        x.damage(2);
        x.crash();
        Check.type(x, "1p");
        x.keep();
        int[] before = Told.by(x);
        x.setWay(1);
        x.setRoom(60);
        x.fill(1, 1, 3, 3);
        x.renew(0);
        x.flush();
        x.store(0);
        x.trim();
        x.damage(x.count(0) - 1);
        x.crash();
        x.type('x');
        x.restore();
        int[] after = Told.by(x);
        check.due("the text is no part of the state", after[13], 3);
        after[13] = before[13];
        String other = Told.difference(before, after);
        check.holds("restored, but: " + other, other == null);
        x.undo();
        check.due("as it was ahead of it: room", x.count(3), 60);
        check.due("as it was ahead of it: crashes", x.count(11), 2);
    }
}
