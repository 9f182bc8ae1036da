import java.util.List;
import java.util.function.Consumer;

/** Sentences of the Terms' HISTORY, and of the promises 16 to 18, that name a bound. */
public final class HistoryTest {
    private static final Check check = new Check();

    public static void main(String[] args) {
        emptyHistory();
        fourStates();
        oldestIsDropped();
        historyGoesOn();
        everyActIsRecorded();
        actsWithoutEffect();
        nothingElseIsRecorded();
        refusedCallsLeaveTheHistory();
        emptySnapshot();
        snapshotIsReplaced();
        snapshotStays();
        stateIsAllButThree();
        stateIsWhole();
        everyCellAndEveryPlace();
        check.end();
    }

    private static void emptyHistory() {
        check.sentence("NONE if the history is empty");
        check.refused("undo()", Made.NEW, PictureLog::undo, -5);
        Consumer<PictureLog> undone = x -> {
            x.fill(0, 0, 3, 1);
            x.undo();
        };
        check.refused("undo() again", undone, PictureLog::undo, -5);
        String other = Told.whole(Made.NEW).difference(Told.whole(undone));
        check.holds("as at first, but " + other, other == null);
        PictureLog x = new PictureLog();
        x.fill(0, 0, 3, 1);
        x.fill(0, 0, 3, 2);
        check.due("undo()", x.undo(), 1);
        check.cells("undone", x, 0, "111100000000");
        check.due("undo()", x.undo(), 0);
        check.cells("undone", x, 0, "000000000000");
        check.due("undo()", x.undo(), -5);
    }

    private static void fourStates() {
        check.sentence("A history of at most 4 states is kept");
        for (int acts = 0; acts <= 12; acts++) {
            PictureLog x = new PictureLog();
            for (int value = 1; value <= acts; value++) {
                x.fill(0, 0, 11, value % 10);
            }
            int kept = Math.min(acts, 4);
            check.due("states behind " + acts + " acts", x.count(12), kept);
            for (int left = kept - 1; left >= 0; left--) {
                check.due("undo()", x.undo(), left);
                check.due("states", x.count(12), left);
                check.due("value", x.cell(0, 0), (acts - kept + left) % 10);
            }
            check.due("undo()", x.undo(), -5);
            check.due("value", x.cell(0, 0), (acts - kept) % 10);
        }
    }

    private static void oldestIsDropped() {
        check.sentence("when one more is recorded, the oldest one is dropped");
        for (int acts = 4; acts <= 5; acts++) {
            PictureLog x = new PictureLog();
            for (int value = 1; value <= acts; value++) {
                x.fill(0, 0, 11, value);
            }
            for (int i = 0; i < 4; i++) {
                x.undo();
            }
            check.due("the oldest state behind " + acts + " acts", x.cell(0, 0), acts - 4);
        }
    }

    private static void historyGoesOn() {
        check.sentence("undo() removes and restores the latest one");
        PictureLog x = new PictureLog();
        for (int round = 0; round < 5; round++) {
            for (int value = 0; value < 7; value++) {
                x.fill(0, 0, 11, value);
            }
            check.due("undo()", x.undo(), 3);
            check.due("undo()", x.undo(), 2);
            check.due("value", x.cell(0, 0), 4);
            x.fill(0, 0, 11, 8);
            check.due("states behind a new act", x.count(12), 3);
            x.fill(0, 0, 11, 9);
            x.fill(0, 0, 11, 7);
            check.due("states", x.count(12), 4);
            int[] values = {9, 8, 4, 3};
            for (int left = 3; left >= 0; left--) {
                check.due("undo() in round " + round, x.undo(), left);
                check.due("value", x.cell(0, 0), values[3 - left]);
            }
        }
    }

    private static void everyActIsRecorded() {
        check.sentence("Each call of a method that is described as an act, and returns no error and not NONE, records the "
                + "state that was before it.");
        for (int act = 0; act < 15; act++) {
            int number = act;
            Consumer<PictureLog> made = act == 14 ? READY.andThen(PictureLog::undo) : READY;
            PictureLog x = Told.made(made);
            int states = x.count(12);
            check.holds("act " + act + " is done", doAct(x, act) >= 0);
            check.due("states behind act " + act, x.count(12), states + 1);
            check.due("undo() of act " + act, x.undo(), states);
            check.unchanged("act " + act + " and undo()", made, y -> {
                doAct(y, number);
                return y.undo();
            });
        }
    }

    /** Every act but a flush is possible, and the history has room for one more. */
    private static final Consumer<PictureLog> READY = x -> {
        x.setWay(0);
        Check.read(x, "0t1;1f0-3=4;0p");
        x.flush();
        x.keep();
    };

    private static int doAct(PictureLog x, int act) {
        switch (act) {
            case 0: return x.fill(1, 0, 0, 1);
            case 1: return x.add(1, 0, 0, 1);
            case 2: return x.turn(1, 1);
            case 3: return x.renew(1);
            case 4: return x.readOrders();
            case 5: return x.setWay(1);
            case 6: return x.setRoom(40);
            case 7: return x.setRoom(300);
            case 8: return x.store(4);
            case 9: return x.store(1);
            case 10: return x.trim();
            case 11: return x.damage(0);
            case 12: return x.restore();
            case 13: return x.crash();
            default: return x.flush();
        }
    }

    private static void actsWithoutEffect() {
        check.sentence("and returns no error and not NONE, records the state that was before it");
        PictureLog x = new PictureLog();
        check.due("crash() that loses none", x.crash(), 0);
        check.due("states", x.count(12), 1);
        check.due("store(0) of what was stored", x.store(0), 0);
        check.due("states", x.count(12), 2);
        x.keep();
        check.due("restore() of what is", x.restore(), 0);
        check.due("states", x.count(12), 3);
        x.setWay(0);
        check.due("states", x.count(12), 4);
        check.due("undo()", x.undo(), 3);
        check.due("undo()", x.undo(), 2);
        check.due("undo()", x.undo(), 1);
        check.due("undo()", x.undo(), 0);
        check.due("crashes so far", x.count(11), 0);
        x.fill(0, 0, 0, 0);
        check.due("states behind a fill that changes no value", x.count(12), 1);
        check.due("undo()", x.undo(), 0);
        check.due("its entry", x.count(0), 0);
    }

    private static void nothingElseIsRecorded() {
        check.sentence("Each call of a method that is described as an act");
        PictureLog x = new PictureLog();
        x.type('0');
        check.due("states behind type", x.count(12), 0);
        x.clearText();
        check.due("states behind clearText", x.count(12), 0);
        x.keep();
        check.due("states behind keep", x.count(12), 0);
        x.undo();
        check.due("states behind undo", x.count(12), 0);
        x.renew(0);
        x.keep();
        x.type('0');
        x.clearText();
        check.due("states behind an act and others", x.count(12), 1);
        x.undo();
        check.due("states behind undo", x.count(12), 0);
        check.due("what was undone is no state", x.undo(), -5);
    }

    private static void refusedCallsLeaveTheHistory() {
        check.sentence("A call that returns an error or NONE changes nothing.");
        for (int acts = 0; acts <= 6; acts++) {
            PictureLog x = new PictureLog();
            for (int value = 1; value <= acts; value++) {
                x.fill(0, 0, 11, value);
                refuse(x);
            }
            refuse(x);
            int kept = Math.min(acts, 4);
            check.due("states", x.count(12), kept);
            for (int left = kept - 1; left >= 0; left--) {
                check.due("undo()", x.undo(), left);
                check.due("value", x.cell(0, 0), acts - kept + left);
                refuse(x);
            }
        }
    }

    private static void refuse(PictureLog x) {
        check.due("setWay(2)", x.setWay(2), -5);
        check.due("setRoom(100)", x.setRoom(100), -5);
        check.due("trim()", x.trim(), -5);
        check.due("damage of no entry", x.damage(x.count(0)), -1);
        check.due("fill(0, 1, 0, 1)", x.fill(0, 1, 0, 1), -2);
        check.due("readOrders()", x.readOrders(), -100);
        check.due("restore()", x.restore(), -5);
    }

    private static void emptySnapshot() {
        check.sentence("There is one snapshot, empty at first.");
        check.refused("restore()", Made.NEW, PictureLog::restore, -5);
        Consumer<PictureLog> acts = x -> {
            x.renew(0);
            x.fill(0, 0, 3, 1);
            x.undo();
        };
        check.refused("restore() behind acts", acts, PictureLog::restore, -5);
        check.due("keep() of a new object", new PictureLog().keep(), 0);
        Consumer<PictureLog> kept = x -> {
            x.keep();
            x.fill(0, 0, 11, 4);
        };
        check.due("restore() of a new object's state", Told.made(kept).restore(), 0);
        check.cells("restored", Told.made(kept.andThen(PictureLog::restore)), 0, "000000000000");
    }

    private static void snapshotIsReplaced() {
        check.sentence("Takes a snapshot of the state, in place of the one that was. Returns the number of the next "
                + "entry.");
        PictureLog x = new PictureLog();
        check.due("keep()", x.keep(), 0);
        x.fill(0, 0, 11, 4);
        check.due("keep()", x.keep(), 1);
        x.fill(0, 0, 11, 5);
        check.due("keep()", x.keep(), 2);
        x.fill(0, 0, 11, 6);
        check.due("restore()", x.restore(), 2);
        check.due("value", x.cell(0, 0), 5);
        check.due("undo()", x.undo(), 3);
        check.due("value", x.cell(0, 0), 6);
        x.undo();
        check.due("value", x.cell(0, 0), 5);
        x.undo();
        check.due("value", x.cell(0, 0), 4);
        check.due("keep()", x.keep(), 1);
        x.fill(0, 0, 11, 8);
        check.due("restore()", x.restore(), 1);
        check.due("value", x.cell(0, 0), 4);
    }

    private static void snapshotStays() {
        check.sentence("Restores the state of the snapshot, which stays.");
        PictureLog x = new PictureLog();
        x.fill(0, 0, 11, 4);
        x.keep();
        for (int value = 5; value <= 9; value++) {
            x.fill(0, 0, 11, value);
            check.due("restore()", x.restore(), 1);
            check.due("value", x.cell(0, 0), 4);
            x.turn(0, 1);
            x.flush();
            x.damage(1);
            check.due("restore()", x.restore(), 1);
            check.due("nothing is flushed", x.count(6), 1);
            check.due("no damage", x.entry(0, 6), 0);
            check.due("states", x.count(12), 4);
        }
        check.due("undo()", x.undo(), 3);
        check.due("the damage", x.entry(1, 6), 1);
        check.due("restore() behind it", x.restore(), 1);
    }

    private static void stateIsAllButThree() {
        check.sentence("A state is everything but the text, the history and the snapshot.");
        PictureLog x = new PictureLog();
        x.fill(0, 0, 11, 1);
        x.keep();
        x.fill(0, 0, 11, 2);
        x.keep();
        Check.type(x, "5p");
        x.undo();
        check.due("undo leaves the text", x.count(13), 2);
        check.due("value", x.cell(0, 0), 1);
        check.due("undo leaves the snapshot", x.restore(), 2);
        check.due("value", x.cell(0, 0), 2);
        check.due("restore leaves the history, but for the state ahead of it", x.count(12), 2);
        x.type(';');
        x.restore();
        check.due("restore leaves the text", x.count(13), 3);
        x.undo();
        x.undo();
        check.due("states", x.count(12), 1);
        check.due("value", x.cell(0, 0), 1);
        check.due("undo", x.undo(), 0);
        check.due("value", x.cell(0, 0), 0);
        check.due("the text", x.clearText(), 3);
        check.due("the snapshot", x.restore(), 2);
    }

    /** All that belongs to a state is made and kept, changed, and restored. */
    private static void stateIsWhole() {
        check.sentence("A state is everything but the text, the history and the snapshot.");
        Consumer<PictureLog> made = x -> {
            x.setWay(0);
            x.setRoom(50);
            x.fill(0, 0, 3, 1);
            x.fill(0, 1, 3, 2);
            x.renew(0);
            x.fill(1, 1, 3, 2);
            x.flush();
            x.store(1);
            x.trim();
            x.damage(2);
            x.crash();
        };
        Consumer<PictureLog> changed = x -> {
            x.setWay(1);
            x.setRoom(60);
            x.fill(1, 1, 3, 3);
            x.renew(0);
            x.flush();
            x.store(0);
            x.trim();
            x.damage(x.count(0) - 1);
            x.crash();
        };
        Told kept = Told.now(made);
        PictureLog x = Told.made(made.andThen(PictureLog::keep).andThen(changed));
        check.holds("it is changed", kept.difference(Told.now(made.andThen(changed))) != null);
        int states = x.count(12);
        Consumer<PictureLog> restored = made.andThen(PictureLog::keep).andThen(changed).andThen(PictureLog::restore);
        String other = kept.difference(Told.now(restored));
        check.holds("restored, but " + other, other == null);
        check.due("states", states, 4);
        Told acted = Told.now(made.andThen(changed).andThen(y -> y.renew(5)).andThen(PictureLog::undo));
        String undone = acted.difference(Told.now(restored.andThen(PictureLog::undo)));
        check.holds("the restoring is undone, but " + undone, undone == null);
    }

    /** All cells of all pages differ from those of their copies, and all 100 places of the log are taken. */
    private static void everyCellAndEveryPlace() {
        check.sentence("A state is everything but the text, the history and the snapshot.");
        Consumer<PictureLog> made = x -> {
            x.setWay(0);
            x.setRoom(300);
            for (int page = 0; page < 6; page++) {
                Check.read(x, page + "r0=012345678901");
            }
            x.flush();
            for (int page = 0; page < 6; page++) {
                x.store(page);
            }
            x.trim();
            for (int i = 0; i < 100; i++) {
                x.turn(i % 6, 1);
            }
        };
        Consumer<PictureLog> other = x -> {
            x.flush();
            for (int page = 0; page < 6; page++) {
                x.store(page);
            }
            x.trim();
            for (int page = 0; page < 6; page++) {
                x.fill(page, 0, 11, 9);
            }
        };
        Told told = Told.now(made);
        sameAs(told, "crash()", made.andThen(PictureLog::crash).andThen(PictureLog::undo));
        for (int page = 0; page < 6; page++) {
            int stored = page;
            sameAs(told, "store(" + page + ")", made.andThen(PictureLog::flush).andThen(x -> x.store(stored))
                    .andThen(PictureLog::undo).andThen(PictureLog::undo));
        }
        sameAs(told, "keep()", made.andThen(PictureLog::keep).andThen(other).andThen(PictureLog::restore));
        sameAs(told, "restore()", made.andThen(PictureLog::keep).andThen(other).andThen(PictureLog::restore)
                .andThen(other).andThen(PictureLog::restore));
    }

    private static void sameAs(Told told, String act, Consumer<PictureLog> calls) {
        List<String> changed = told.changed(Told.now(calls));
        changed.remove("count(12)");
        check.holds("all is brought back behind " + act + ", but for " + changed, changed.isEmpty());
    }
}
