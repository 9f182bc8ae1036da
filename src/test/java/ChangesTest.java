/** Promises 1 to 5: a new object, fill, add, turn and renew. */
public final class ChangesTest {
    private static final Check check = new Check();

    public static void main(String[] args) {
        newObject();
        fillAsItIs();
        fillErrors();
        addAsItIs();
        addErrors();
        turnAsItIs();
        turnErrors();
        renew();
        wayOfPictures();
        wayOfTheSooner();
        wayOfTheSoonerBehindAPicture();
        roomIsMadeByDropping();
        nothingIsDroppedInVain();
        check.end();
    }

    private static PictureLog withWay(int way) {
        PictureLog x = new PictureLog();
        x.setWay(way);
        return x;
    }

    private static void newObject() {
        PictureLog x = new PictureLog();
        int[] counts = {0, 0, 0, 100, 2, 0, 0, 30, 0, 0, 0, 0, 0, 0};
        for (int what = 0; what < counts.length; what++) {
            check.due("new: count(" + what + ")", x.count(what), counts[what]);
        }
        int[] told = {5, 0, -5, 0, 0, 0, 4};
        for (int page = 0; page < 6; page++) {
            check.cells("new", x, page, "000000000000");
            for (int cell = 0; cell < 12; cell++) {
                check.due("new: stored", x.stored(page, cell), 0);
            }
            for (int what = 0; what < told.length; what++) {
                check.due("new: page(" + page + ", " + what + ")", x.page(page, what), told[what]);
            }
        }
        check.due("new: entry(0, 0)", x.entry(0, 0), -1);
        check.due("new: undo()", x.undo(), -5);
        check.due("new: restore()", x.restore(), -5);
        check.due("new: flush()", x.flush(), -5);
        check.due("new: trim()", x.trim(), -5);
        check.due("new: readOrders()", x.readOrders(), -100);
        check.due("new: crash()", x.crash(), 0);
        check.cells("new, crashed", x, 5, "000000000000");
    }

    private static void fillAsItIs() {
        PictureLog x = withWay(0);
        check.due("fill(0, 2, 5, 7)", x.fill(0, 2, 5, 7), 1);
        check.cells("filled", x, 0, "007777000000");
        check.cells("filled", x, 1, "000000000000");
        check.due("kind", x.entry(0, 1), 1);
        check.due("size", x.entry(0, 2), 4);
        check.due("time", x.entry(0, 3), 8);
        check.due("fill(5, 0, 11, 9)", x.fill(5, 0, 11, 9), 1);
        check.cells("filled whole", x, 5, "999999999999");
        check.due("time", x.entry(1, 3), 16);
        check.due("page of the entry", x.entry(1, 0), 5);
        check.due("fill(0, 11, 11, 1)", x.fill(0, 11, 11, 1), 1);
        check.due("fill(0, 0, 0, 2)", x.fill(0, 0, 0, 2), 1);
        check.due("fill(0, 4, 5, 0)", x.fill(0, 4, 5, 0), 1);
        check.cells("filled at the ends", x, 0, "207700000001");
        check.due("time of one cell", x.entry(2, 3), 5);
        check.due("the next entry", x.count(0), 5);
        check.due("changes so far", x.count(10), 5);
        check.due("states", x.count(12), 4);
    }

    private static void fillErrors() {
        PictureLog x = withWay(0);
        x.fill(1, 0, 3, 4);
        int[][] unknown = {{6, 0, 1, 2}, {-1, 0, 1, 2}, {0, 12, 12, 2}, {0, -1, 1, 2}, {0, 0, 12, 2},
            {0, 3, -1, 2}, {6, 3, 2, 10}, {0, 12, 0, 10}, {Integer.MIN_VALUE, 0, 0, 0},
            {Integer.MAX_VALUE, 0, 0, 0}, {0, Integer.MAX_VALUE, Integer.MIN_VALUE, 0}};
        for (int[] a : unknown) {
            check.due("fill, unknown", x.fill(a[0], a[1], a[2], a[3]), -1);
        }
        int[][] bad = {{0, 3, 2, 2}, {0, 0, 1, 10}, {0, 0, 1, -1}, {0, 11, 0, 2},
            {0, 0, 0, Integer.MAX_VALUE}, {0, 0, 0, Integer.MIN_VALUE}};
        for (int[] a : bad) {
            check.due("fill, bad", x.fill(a[0], a[1], a[2], a[3]), -2);
        }
        fillTheRoom(x);
        check.due("fill, full", x.fill(0, 0, 1, 2), -3);
        check.due("fill, bad ahead of full", x.fill(0, 1, 0, 2), -2);
        check.due("fill, unknown ahead of full", x.fill(6, 0, 0, 2), -1);
    }

    /** Leaves less than 3 of the room, all of it taken by entries that are not flushed. */
    private static void fillTheRoom(PictureLog x) {
        x.setRoom(30);
        for (int i = 0; i < 10; i++) {
            x.turn(2, 1);
        }
    }

    private static void addAsItIs() {
        PictureLog x = withWay(0);
        check.due("add(2, 0, 11, 4)", x.add(2, 0, 11, 4), 2);
        check.due("add(2, 3, 5, 9)", x.add(2, 3, 5, 9), 2);
        check.cells("added", x, 2, "444333444444");
        check.due("add(2, 4, 11, 6)", x.add(2, 4, 11, 6), 2);
        check.due("add(2, 0, 0, 1)", x.add(2, 0, 0, 1), 2);
        check.cells("added modulo 10", x, 2, "544399000000");
        check.due("kind", x.entry(1, 1), 2);
        check.due("size", x.entry(1, 2), 4);
        check.due("time", x.entry(1, 3), 7);
        check.due("time of one cell", x.entry(3, 3), 5);
    }

    private static void addErrors() {
        PictureLog x = withWay(0);
        x.fill(1, 0, 3, 4);
        int[][] unknown = {{6, 0, 1, 2}, {-1, 0, 1, 2}, {0, 12, 12, 2}, {0, -1, 1, 2}, {0, 0, 12, 2},
            {0, 3, -1, 2}, {6, 3, 2, 0}, {0, 12, 0, 10}};
        for (int[] a : unknown) {
            check.due("add, unknown", x.add(a[0], a[1], a[2], a[3]), -1);
        }
        int[][] bad = {{0, 3, 2, 2}, {0, 0, 1, 10}, {0, 0, 1, 0}, {0, 0, 1, -1}, {0, 0, 0, Integer.MIN_VALUE}};
        for (int[] a : bad) {
            check.due("add, bad", x.add(a[0], a[1], a[2], a[3]), -2);
        }
        fillTheRoom(x);
        check.due("add, full", x.add(0, 0, 1, 2), -3);
        check.due("add, bad ahead of full", x.add(0, 0, 1, 0), -2);
    }

    private static void turnAsItIs() {
        PictureLog x = withWay(0);
        Check.read(x, "3r0=123456789012");
        check.due("turn(3, 1)", x.turn(3, 1), 3);
        check.cells("turned by 1", x, 3, "212345678901");
        check.due("turn(3, 11)", x.turn(3, 11), 3);
        check.cells("turned by 11", x, 3, "123456789012");
        check.due("turn(3, 5)", x.turn(3, 5), 3);
        check.cells("turned by 5", x, 3, "890121234567");
        check.due("kind", x.entry(1, 1), 3);
        check.due("size", x.entry(1, 2), 3);
        check.due("time", x.entry(1, 3), 15);
    }

    private static void turnErrors() {
        PictureLog x = withWay(0);
        x.fill(1, 0, 3, 4);
        check.due("turn(6, 1)", x.turn(6, 1), -1);
        check.due("turn(-1, 0)", x.turn(-1, 0), -1);
        check.due("turn(0, 0)", x.turn(0, 0), -2);
        check.due("turn(0, 12)", x.turn(0, 12), -2);
        check.due("turn(0, -1)", x.turn(0, -1), -2);
        check.due("turn(0, least)", x.turn(0, Integer.MIN_VALUE), -2);
        fillTheRoom(x);
        check.due("turn, full", x.turn(0, 1), -3);
        check.due("turn, bad ahead of full", x.turn(0, 12), -2);
    }

    private static void renew() {
        PictureLog x = withWay(0);
        check.due("renew(4)", x.renew(4), 0);
        check.due("kind", x.entry(0, 1), 0);
        check.due("size of one run", x.entry(0, 2), 4);
        check.due("time of a picture", x.entry(0, 3), 4);
        x.fill(4, 1, 1, 1);
        x.fill(4, 3, 3, 1);
        check.due("renew(4)", x.renew(4), 3);
        check.due("size of five runs", x.entry(3, 2), 12);
        x.fill(4, 5, 5, 1);
        check.due("renew(4)", x.renew(4), 5);
        check.due("size of seven runs", x.entry(5, 2), 14);
        check.cells("renewed", x, 4, "010101000000");
        check.due("pictures so far", x.count(9), 3);
        check.due("changes so far", x.count(10), 3);
        check.due("renew(6)", x.renew(6), -1);
        check.due("renew(-1)", x.renew(-1), -1);
        PictureLog y = withWay(0);
        fillTheRoom(y);
        check.due("renew, full", y.renew(0), -3);
        check.due("renew, unknown ahead of full", y.renew(6), -1);
    }

    private static void wayOfPictures() {
        PictureLog x = withWay(1);
        check.due("fill", x.fill(0, 1, 1, 1), 0);
        check.due("size of three runs", x.entry(0, 2), 8);
        check.due("add", x.add(0, 1, 1, 1), 0);
        check.due("turn", x.turn(0, 10), 0);
        check.cells("by pictures", x, 0, "000000000002");
        check.due("size of two runs", x.entry(2, 2), 6);
        check.due("needed", x.page(0, 1), 1);
        check.due("time to restore", x.page(0, 0), 6);
        check.due("a row", Check.read(x, "0r3=123"), 1);
        check.due("kind of it", x.entry(3, 1), 0);
    }

    private static void wayOfTheSooner() {
        PictureLog x = withWay(0);
        x.fill(0, 2, 2, 1);
        x.flush();
        x.store(0);
        x.setWay(2);
        check.due("as long: 5 and 5, against four runs", x.fill(0, 11, 11, 2), 1);
        x.undo();
        check.due("sooner: 5 and 5, against five runs", x.fill(0, 5, 5, 2), 1);
        x.undo();
        check.due("later: 5 and 5, against three runs", x.fill(0, 2, 2, 2), 0);
        x.undo();
        check.due("later: 5 and 6, against four runs", x.fill(0, 10, 11, 2), 0);
        x.undo();
        check.due("add, as long", x.add(0, 11, 11, 2), 2);
        x.undo();
        check.due("add, later", x.add(0, 10, 11, 2), 0);
        x.undo();
        check.due("turn: 5 and 15 is more than any picture", x.turn(0, 3), 0);
    }

    private static void wayOfTheSoonerBehindAPicture() {
        PictureLog x = withWay(0);
        check.due("a row of twelve runs", Check.read(x, "0r0=121212121212"), 0);
        x.setWay(2);
        check.due("5 and 27 and 5 against 14", x.fill(0, 0, 0, 3), 0);
        check.due("14 and 5 against 14", x.fill(0, 0, 0, 4), 0);
        check.due("time to restore", x.page(0, 0), 14);
        x.fill(0, 0, 11, 5);
        check.due("one run", x.page(0, 0), 4);
        check.due("4 and 5 against three runs", x.fill(0, 5, 5, 6), 0);
    }

    private static void roomIsMadeByDropping() {
        PictureLog x = withWay(0);
        x.setRoom(30);
        for (int i = 0; i < 7; i++) {
            x.fill(i % 2, i, i, i + 1);
        }
        x.flush();
        x.store(0);
        check.due("sizes", x.count(2), 28);
        check.due("a fill that drops one", x.fill(2, 0, 0, 1), 1);
        check.due("sizes", x.count(2), 28);
        check.due("dropped", x.entry(0, 0), -1);
        check.due("the oldest one now", x.entry(1, 0), 1);
        check.due("the oldest one is needed", x.fill(2, 1, 1, 1), -3);
        x.store(1);
        check.due("a row that drops as many as it must", Check.read(x, "2r0=12345"), 0);
        check.due("sizes", x.count(2), 28);
        check.due("held", x.count(1), 6);
        check.due("the oldest one now", x.entry(3, 0), 1);
        check.due("no older one", x.entry(2, 0), -1);
        check.due("the room is just enough", x.renew(1) >= 0 ? x.count(2) : -1, 30);
    }

    private static void nothingIsDroppedInVain() {
        PictureLog x = withWay(0);
        x.setRoom(30);
        x.fill(0, 0, 0, 1);
        x.flush();
        x.store(0);
        for (int i = 0; i < 6; i++) {
            x.fill(1, i, i, 1);
        }
        check.due("a row of 7 for 2 and 4", Check.read(x, "2r0=1234"), -3);
        check.due("the oldest one stays", x.entry(0, 0), 0);
        check.due("a turn needs that it is dropped", x.turn(2, 1), 3);
        check.due("the oldest one is gone", x.entry(0, 0), -1);
    }
}
