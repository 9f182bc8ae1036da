import java.util.function.Consumer;

/** Calls by which objects are made up to a state that tests look at. */
final class Made {
    static final Consumer<PictureLog> NEW = x -> { };

    /** Changes are logged as they are. */
    static final Consumer<PictureLog> PLAIN = x -> x.setWay(0);

    /**
     * Something of all: a dropped entry, a copy, a picture, a damaged entry, a doubtful page, entries that are not
     * flushed, a snapshot, a text, and a full history. The log holds the entries 1 to 6 with 27 of the room of 80.
     */
    static final Consumer<PictureLog> RICH = x -> {
        x.setWay(0);
        x.setRoom(80);
        x.fill(0, 0, 3, 1);
        x.fill(1, 2, 5, 2);
        x.flush();
        x.store(0);
        x.trim();
        x.renew(1);
        x.add(1, 0, 0, 5);
        x.turn(2, 4);
        x.flush();
        x.keep();
        x.damage(3);
        x.crash();
        x.fill(3, 1, 1, 9);
        x.fill(0, 1, 1, 9);
        Check.type(x, "4t1;5p");
    };

    /** The room of 30 is taken by ten turns of the page 2, of which none is flushed. */
    static final Consumer<PictureLog> PACKED = x -> {
        x.setWay(0);
        x.setRoom(30);
        for (int i = 0; i < 10; i++) {
            x.turn(2, 1);
        }
    };

    /** Of the room of 30, 28 are taken; of these, 4 by an entry that may be dropped. Six are not flushed. */
    static final Consumer<PictureLog> TIGHT = x -> {
        x.setWay(0);
        x.setRoom(30);
        x.fill(0, 0, 0, 1);
        x.flush();
        x.store(0);
        for (int i = 0; i < 6; i++) {
            x.fill(1, i, i, 1);
        }
    };

    private Made() {
    }

    /** The calls of a state, and behind them the text is typed. */
    static Consumer<PictureLog> typed(Consumer<PictureLog> calls, String text) {
        return calls.andThen(x -> {
            x.clearText();
            Check.type(x, text);
        });
    }

    /** The page has these cells, by its copy in the store; the log is empty, and changes are logged as they are. */
    static Consumer<PictureLog> stored(int page, String cells) {
        return x -> {
            x.setWay(0);
            Check.read(x, page + "r0=" + cells);
            x.flush();
            x.store(page);
            x.trim();
        };
    }

    /** Twelve cells, one behind the other, with so many runs. */
    static String cellsOfRuns(int runs) {
        StringBuilder cells = new StringBuilder();
        for (int cell = 0; cell < 12; cell++) {
            cells.append(Math.min(cell, runs - 1) % 2);
        }
        return cells.toString();
    }
}
