import java.util.List;
import java.util.function.Consumer;

/** Sentences of the Terms' PAGES, and the arguments of the promises 1 to 5 and 19 to 24 that they bound. */
public final class PagesTest {
    private static final String ZEROS = "000000000000";
    private static final Check check = new Check();

    public static void main(String[] args) {
        sixPages();
        eachPageStandsAlone();
        twelveCells();
        eachCellStandsAlone();
        values();
        zeroAtFirst();
        copyBesideThePage();
        pictureOfAllCells();
        fill();
        addModulo10();
        turnModulo12();
        turnsMeetAgain();
        row();
        lastCellNotLess();
        amounts();
        turns();
        check.end();
    }

    private static PictureLog plain() {
        return Told.made(Made.PLAIN);
    }

    private static void sixPages() {
        check.sentence("There are 6 pages, numbered from 0");
        check.range("fill(n, 0, 11, 3)", Made.RICH, 0, 5, -1, (x, n) -> x.fill(n, 0, 11, 3));
        check.range("add(n, 0, 11, 3)", Made.RICH, 0, 5, -1, (x, n) -> x.add(n, 0, 11, 3));
        check.range("turn(n, 3)", Made.RICH, 0, 5, -1, (x, n) -> x.turn(n, 3));
        check.range("renew(n)", Made.RICH, 0, 5, -1, PictureLog::renew);
        check.range("store(n)", Made.RICH.andThen(PictureLog::flush), 0, 5, -1, PictureLog::store);
        check.range("cell(n, 0)", Made.RICH, 0, 5, -1, (x, n) -> x.cell(n, 0));
        check.range("page(n, 0)", Made.RICH, 0, 5, -1, (x, n) -> x.page(n, 0));
        check.range("stored(n, 0)", Made.RICH, 0, 5, -1, (x, n) -> x.stored(n, 0));
        check.range("asOf(n, 2, 0)", Made.RICH, 0, 5, -1, (x, n) -> x.asOf(n, 2, 0));
        check.range("wouldLog(n, 0)", Made.RICH, 0, 5, -1, (x, n) -> x.wouldLog(n, 0));
    }

    private static void eachPageStandsAlone() {
        check.sentence("There are 6 pages, numbered from 0");
        for (int page = 0; page < 6; page++) {
            PictureLog x = plain();
            x.fill(page, 0, 11, 7);
            x.flush();
            x.store(page);
            check.due("entry(0, 0)", x.entry(0, 0), page);
            for (int other = 0; other < 6; other++) {
                String want = other == page ? "777777777777" : ZEROS;
                check.cells("page " + page + " filled", x, other, want);
                for (int cell = 0; cell < 12; cell++) {
                    check.due("stored(" + other + ", " + cell + ")", x.stored(other, cell), other == page ? 7 : 0);
                }
                check.due("page(" + other + ", 3)", x.page(other, 3), other == page ? 1 : 0);
            }
        }
    }

    private static void twelveCells() {
        check.sentence("each with 12 cells, numbered from 0");
        check.range("fill(0, n, 11, 3)", Made.RICH, 0, 11, -1, (x, n) -> x.fill(0, n, 11, 3));
        check.range("fill(5, 0, n, 3)", Made.RICH, 0, 11, -1, (x, n) -> x.fill(5, 0, n, 3));
        check.range("fill(5, n, n, 3)", Made.RICH, 0, 11, -1, (x, n) -> x.fill(5, n, n, 3));
        check.range("add(0, n, 11, 3)", Made.RICH, 0, 11, -1, (x, n) -> x.add(0, n, 11, 3));
        check.range("add(5, 0, n, 3)", Made.RICH, 0, 11, -1, (x, n) -> x.add(5, 0, n, 3));
        check.range("add(5, n, n, 3)", Made.RICH, 0, 11, -1, (x, n) -> x.add(5, n, n, 3));
        check.range("cell(5, n)", Made.RICH, 0, 11, -1, (x, n) -> x.cell(5, n));
        check.range("stored(0, n)", Made.RICH, 0, 11, -1, (x, n) -> x.stored(0, n));
        check.range("asOf(0, 2, n)", Made.RICH, 0, 11, -1, (x, n) -> x.asOf(0, 2, n));
    }

    private static void eachCellStandsAlone() {
        check.sentence("each with 12 cells, numbered from 0");
        for (int cell = 0; cell < 12; cell++) {
            PictureLog x = plain();
            x.fill(3, cell, cell, 9);
            x.flush();
            x.store(3);
            for (int other = 0; other < 12; other++) {
                int want = other == cell ? 9 : 0;
                check.due("cell(3, " + other + ")", x.cell(3, other), want);
                check.due("stored(3, " + other + ")", x.stored(3, other), want);
                check.due("asOf(3, 0, " + other + ")", x.asOf(3, 0, other), want);
            }
        }
    }

    private static void values() {
        check.sentence("whose values are 0 to 9");
        check.range("fill(0, 0, 11, n)", Made.RICH, 0, 9, -2, (x, n) -> x.fill(0, 0, 11, n));
        check.range("wouldLog(0, n)", Made.RICH, 0, 9, -2, (x, n) -> x.wouldLog(0, n));
        for (int value = 0; value <= 9; value++) {
            PictureLog x = plain();
            x.fill(0, 0, 11, 5);
            x.fill(0, 1, 10, value);
            check.due("value", x.cell(0, 1), value);
            check.due("value", x.cell(0, 10), value);
            x.renew(0);
            x.flush();
            x.crash();
            check.due("value of a picture", x.cell(0, 10), value);
            check.due("value as of an entry", x.asOf(0, 1, 1), value);
        }
    }

    private static void zeroAtFirst() {
        PictureLog x = new PictureLog();
        check.sentence("(0 at first). A page is doubtful or not (at first not).");
        for (int page = 0; page < 6; page++) {
            check.cells("at first", x, page, ZEROS);
            check.due("doubtful at first", x.page(page, 4), 0);
        }
        check.due("doubtful pages at first", x.count(8), 0);
        check.sentence("(at first 0, all cells 0)");
        for (int page = 0; page < 6; page++) {
            int stored = page;
            check.due("the copy is as of", x.page(page, 3), 0);
            check.tells("stored", x, (y, cell) -> y.stored(stored, cell), 0, 0, 0, 0, 0, 0, 0, 0, 0, 0, 0, 0);
        }
        check.sentence("Creates empty pages and an empty log.");
        check.tells("count", x, PictureLog::count, 0, 0, 0, 100, 2, 0, 0, 30, 0, 0, 0, 0, 0, 0);
        check.tells("entry 0", x, (y, what) -> y.entry(0, what), -1, -1, -1, -1, -1, -1, -1);
        check.tells("page 0", x, (y, what) -> y.page(0, what), 5, 0, -5, 0, 0, 0, 4);
        check.tells("page 5", x, (y, what) -> y.page(5, what), 5, 0, -5, 0, 0, 0, 4);
    }

    private static void copyBesideThePage() {
        check.sentence("Tells the cell of a copy in the store.");
        PictureLog x = plain();
        Check.read(x, "3r0=123456789012");
        for (int cell = 0; cell < 12; cell++) {
            check.due("ahead of a store: stored(3, " + cell + ")", x.stored(3, cell), 0);
        }
        x.flush();
        x.store(3);
        x.turn(3, 1);
        x.add(3, 0, 11, 5);
        for (int cell = 0; cell < 12; cell++) {
            check.due("the page went on: stored(3, " + cell + ")", x.stored(3, cell), (cell + 1) % 10);
            check.due("another page: stored(4, " + cell + ")", x.stored(4, cell), 0);
        }
        check.cells("the page", x, 3, "767890123456");
    }

    private static void pictureOfAllCells() {
        check.sentence("is a picture of it (kind 0)");
        PictureLog x = plain();
        Check.read(x, "3r0=123456789012");
        x.renew(3);
        x.flush();
        x.trim();
        check.due("the picture alone is held", x.count(1), 1);
        check.cellsAsOf(x, 3, 1, "123456789012");
        x.fill(3, 0, 11, 9);
        x.renew(3);
        x.crash();
        check.cells("restored from the picture", x, 3, "123456789012");
    }

    private static void fill() {
        check.sentence("fill: some cells, one behind the other, get one value");
        for (int from = 0; from < 12; from++) {
            for (int to = from; to < 12; to++) {
                PictureLog x = plain();
                x.fill(0, 0, 11, 4);
                check.due("fill(0, " + from + ", " + to + ", 7)", x.fill(0, from, to, 7), 1);
                for (int cell = 0; cell < 12; cell++) {
                    check.due("cell " + cell + " of " + from + "-" + to, x.cell(0, cell),
                            cell >= from && cell <= to ? 7 : 4);
                }
            }
        }
    }

    private static void addModulo10() {
        check.sentence("add: to some cells, one behind the other, an amount from 1 to 9 is added, modulo 10");
        for (int value = 0; value <= 9; value++) {
            for (int amount = 1; amount <= 9; amount++) {
                PictureLog x = plain();
                x.fill(0, 0, 11, value);
                check.due("add", x.add(0, 1, 10, amount), 2);
                int sum = value + amount >= 10 ? value + amount - 10 : value + amount;
                check.due(value + " and " + amount, x.cell(0, 1), sum);
                check.due(value + " and " + amount, x.cell(0, 10), sum);
                check.due("ahead of them", x.cell(0, 0), value);
                check.due("behind them", x.cell(0, 11), value);
                x.flush();
                x.crash();
                check.due(value + " and " + amount + ", restored", x.cell(0, 10), sum);
            }
        }
        PictureLog x = plain();
        x.add(0, 0, 0, 1);
        x.add(0, 11, 11, 9);
        x.add(0, 11, 11, 1);
        check.cells("the first and the last cell", x, 0, "100000000000");
    }

    private static void turnModulo12() {
        check.sentence("turn: each value goes to the cell whose number is greater by 1 to 11, modulo 12");
        for (int by = 1; by <= 11; by++) {
            PictureLog x = plain();
            Check.read(x, "0r0=012345678901");
            Check.read(x, "0a11-11+1");
            check.due("turn(0, " + by + ")", x.turn(0, by), 3);
            int[] was = {0, 1, 2, 3, 4, 5, 6, 7, 8, 9, 0, 2};
            for (int cell = 0; cell < 12; cell++) {
                int to = cell + by < 12 ? cell + by : cell + by - 12;
                check.due("cell " + cell + " turned by " + by, x.cell(0, to), was[cell]);
                check.due("as of the turn", x.asOf(0, 2, to), was[cell]);
                check.due("as of the entry ahead", x.asOf(0, 1, cell), was[cell]);
            }
        }
    }

    private static void turnsMeetAgain() {
        check.sentence("turn: each value goes to the cell whose number is greater by 1 to 11, modulo 12");
        for (int by = 1; by <= 11; by++) {
            PictureLog x = plain();
            Check.read(x, "0r0=123456789012");
            x.turn(0, by);
            x.turn(0, 12 - by);
            check.cells("by " + by + " and the rest", x, 0, "123456789012");
        }
        PictureLog x = plain();
        Check.read(x, "0r0=100000000002");
        for (int i = 0; i < 12; i++) {
            x.turn(0, 1);
            check.due("the first goes on", x.cell(0, (i + 1) % 12), 1);
            check.due("the last goes to the first place, and on", x.cell(0, i), 2);
        }
    }

    private static void row() {
        check.sentence("row: some cells, one behind the other, get values of their own");
        String digits = "987654321987";
        for (int from = 0; from < 12; from++) {
            for (int many = 1; from + many <= 12; many++) {
                PictureLog x = plain();
                check.due("row", Check.read(x, "5r" + from + "=" + digits.substring(0, many)), 0);
                String want = ZEROS.substring(0, from) + digits.substring(0, many)
                        + ZEROS.substring(from + many);
                check.cells("row of " + many + " from " + from, x, 5, want);
            }
        }
    }

    private static void lastCellNotLess() {
        check.sentence("to: the last cell, not less than from");
        for (Consumer<PictureLog> made : List.of(Made.RICH, Made.PACKED)) {
            for (int from = 1; from < 12; from++) {
                int first = from;
                check.refused("fill(0, n, n - 1, 3)", made, x -> x.fill(0, first, first - 1, 3), -2);
                check.refused("add(0, n, 0, 3)", made, x -> x.add(0, first, 0, 3), -2);
            }
            check.refused("fill(0, 11, 0, 3)", made, x -> x.fill(0, 11, 0, 3), -2);
            check.refused("add(0, 11, 10, 3)", made, x -> x.add(0, 11, 10, 3), -2);
        }
        for (int cell = 0; cell < 12; cell++) {
            PictureLog x = plain();
            check.due("fill(0, n, n, 3)", x.fill(0, cell, cell, 3), 1);
            check.due("add(0, n, n, 3)", x.add(0, cell, cell, 3), 2);
            check.due("that cell", x.cell(0, cell), 6);
        }
    }

    private static void amounts() {
        check.sentence("amount: 1 to 9");
        check.range("add(0, 0, 11, n)", Made.RICH, 1, 9, -2, (x, n) -> x.add(0, 0, 11, n));
    }

    private static void turns() {
        check.sentence("by: 1 to 11");
        check.range("turn(0, n)", Made.RICH, 1, 11, -2, (x, n) -> x.turn(0, n));
    }
}
