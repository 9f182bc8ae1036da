import java.util.Set;
import java.util.function.Consumer;

/** Sentences of the Terms' TEXTS, and of the promises 6, 14 and 15, that name a bound. */
public final class TextTest {
    private static final String DIGITS = "0123456789";
    private static final String CELLS = "0123456789";
    private static final Check check = new Check();

    public static void main(String[] args) {
        sixtyCharacters();
        emptyAtFirst();
        oneOrMoreOrders();
        signsAtTheirPlaces();
        secondCellNotLess();
        firstCells();
        numbersOfTurns();
        rows();
        twoDigitsIfItCan();
        endsTooEarly();
        firstAndLastFault();
        everyCharacter();
        allOrNone();
        picturesLogged();
        oneAct();
        lengthThen();
        check.end();
    }

    private static int read(String text) {
        PictureLog x = new PictureLog();
        x.setRoom(300);
        Check.type(x, text);
        return x.readOrders();
    }

    private static void good(String text) {
        int answer = read(text);
        check.holds("\"" + text + "\" is good, but answered " + answer, answer >= 0);
    }

    private static void fault(String text, int place) {
        check.due("readOrders() of \"" + text + "\"", read(text), -100 - place);
    }

    private static void early(String text) {
        fault(text, text.length());
    }

    private static void sixtyCharacters() {
        check.sentence("There is a text of at most 60 characters, empty at first.");
        PictureLog x = new PictureLog();
        for (int length = 1; length <= 60; length++) {
            check.due("type", x.type('p'), length);
            check.due("length", x.count(13), length);
        }
        check.due("type", x.type('p'), -3);
        check.due("length", x.count(13), 60);
        check.due("clearText()", x.clearText(), 60);
        check.due("type", x.type('p'), 1);
        String full = "0p;".repeat(19) + "0pp";
        for (char sign : new char[] {'0', ';', (char) 0, (char) 65535}) {
            check.refused("type into a full text", Made.typed(Made.RICH, full), y -> y.type(sign), -3);
        }
        PictureLog y = Told.made(Made.typed(Made.NEW, full.substring(0, 59)));
        check.due("the last character that finds room", y.type('p'), 60);
        check.due("and it is read", y.readOrders(), -159);
    }

    private static void emptyAtFirst() {
        check.sentence("(the empty text does)");
        check.due("length at first", new PictureLog().count(13), 0);
        check.refused("readOrders() at first", Made.NEW, PictureLog::readOrders, -100);
        check.refused("readOrders() of a text that was emptied", Made.typed(Made.RICH, ""), PictureLog::readOrders, -100);
        check.due("clearText() at first", new PictureLog().clearText(), 0);
    }

    private static void oneOrMoreOrders() {
        check.sentence("A text of orders is one or more orders with \";\" between two.");
        good("0p");
        good("0p;1p");
        for (int many = 1; many <= 20; many++) {
            String text = "0p;".repeat(many - 1) + "5p";
            check.due(text, read(text), many);
        }
        fault(";", 0);
        fault(";0p", 0);
        early("0p;");
        fault("0p;;", 3);
        fault("0p;;1p", 3);
        fault("0p 1p", 2);
        fault("0p1p", 2);
        fault("0p,1p", 2);
        fault("0p:1p", 2);
        fault("0p<1p", 2);
    }

    /** Which characters may stand behind the start of a text, of all from 0 to 255. */
    private static void next(String start, String allowed) {
        for (char sign = 0; sign < 256; sign++) {
            int answer = read(start + sign);
            if (allowed.indexOf(sign) >= 0) {
                check.holds("\"" + start + sign + "\" is good that far: " + answer,
                        answer >= 0 || answer <= -100 - start.length() - 1);
            } else {
                check.due("\"" + start + "\" and the character " + (int) sign, answer, -100 - start.length());
            }
        }
    }

    private static void signsAtTheirPlaces() {
        check.sentence("An order is a page (a digit from 0 to 5), and one of these");
        next("", "012345");
        next("0p;", "012345");
        for (int page = 0; page <= 5; page++) {
            next(page + "", "fatrp");
        }
        check.sentence("\"f\", a cell, \"-\", a cell, \"=\", a value");
        for (String kind : new String[] {"f", "a"}) {
            next("0" + kind, CELLS);
            next("0" + kind + "0", "-");
            next("0" + kind + "1", "-01");
            next("0" + kind + "2", "-");
            next("0" + kind + "9", "-");
            next("0" + kind + "10", "-");
            next("0" + kind + "11", "-");
            next("0" + kind + "0-", CELLS);
            next("0" + kind + "1-", "123456789");
            next("0" + kind + "9-", "9");
            next("0" + kind + "10-", "");
            String sign = kind.equals("f") ? "=" : "+";
            next("0" + kind + "0-0", sign);
            next("0" + kind + "0-1", sign + "01");
            next("0" + kind + "0-2", sign);
            next("0" + kind + "0-10", sign);
            next("0" + kind + "0-11", sign);
            next("0" + kind + "11-11", sign);
        }
        next("0f0-3=", DIGITS);
        next("0f0-3=0", ";");
        next("0f0-3=9", ";");
        check.sentence("an amount (a digit from 1 to 9; likewise)");
        next("0a0-3+", "123456789");
        next("0a0-3+1", ";");
        next("0a0-3+9", ";");
        check.sentence("\"t\", a number (1 to 11; it is turned by that)");
        next("0t", "123456789");
        next("0t1", "01;");
        next("0t2", ";");
        next("0t10", ";");
        next("0t11", ";");
        check.sentence("\"r\", a cell, \"=\", one or more digits");
        next("0r", CELLS);
        next("0r0", "=");
        next("0r1", "=01");
        next("0r2", "=");
        next("0r11", "=");
        next("0r0=", DIGITS);
        next("0r0=12345678901", DIGITS + ";");
        next("0r0=123456789012", ";");
        next("0r11=", DIGITS);
        next("0r11=1", ";");
        check.sentence("\"p\" (it is renewed, as by renew())");
        next("0p", ";");
    }

    private static void secondCellNotLess() {
        check.sentence("(the cells from the first one to the second one are filled; the second one is not less than the "
                + "first one)");
        PictureLog x = new PictureLog();
        Check.read(x, "0f2-10=7;1f3-3=8");
        check.cells("from 2 to 10", x, 0, "007777777770");
        check.cells("from 3 to 3", x, 1, "000800000000");
        check.sentence("(the last digit of a cell that is less than the one ahead of it, too, also if the text just ends "
                + "behind it)");
        for (int first = 0; first <= 11; first++) {
            for (int second = 0; second <= 11; second++) {
                String fill = "0f" + first + "-" + second;
                String add = "0a" + first + "-" + second;
                if (second < first) {
                    fault(fill, fill.length() - 1);
                    fault(add, add.length() - 1);
                    fault(fill + "=3", fill.length() - 1);
                    fault(add + "+3", add.length() - 1);
                    fault(fill + "x", fill.length() - 1);
                    fault(add + ";", add.length() - 1);
                    fault("5p;" + fill, fill.length() + 2);
                } else {
                    early(fill);
                    early(add);
                    early(fill + "=");
                    early(add + "+");
                    good(fill + "=3");
                    good(add + "+3");
                    fault(fill + "x", fill.length());
                }
            }
        }
        for (char sign = 0; sign < 256; sign++) {
            if (sign != '0' && sign != '1') {
                fault("0f10-1" + sign, 5);
                fault("0a11-1" + sign, 5);
            }
        }
        early("0f10-10");
        early("0f10-11");
        fault("0f11-10", 6);
        early("0a11-11");
        fault("0f11-1", 5);
        fault("0f11-12=1", 5);
        fault("0f2-12=1", 4);
        fault("0f1-12=1", 5);
        fault("0f5-00=1", 4);
        fault("0f0-00=1", 5);
        fault("0f10-100", 7);
        check.refused("0f5-3=1", Made.typed(Made.RICH, "0f5-3=1"), PictureLog::readOrders, -104);
        check.refused("0p;0a11-10", Made.typed(Made.RICH, "0p;0a11-10"), PictureLog::readOrders, -109);
    }

    private static void firstCells() {
        check.sentence("Cells are numbers from 0 to 11, without a zero in front unless it is the single digit 0.");
        for (String kind : new String[] {"f", "a", "r"}) {
            for (int cell = 0; cell <= 11; cell++) {
                early("0" + kind + cell);
                fault("0" + kind + "0" + cell, 3);
            }
            for (int cell = 12; cell <= 19; cell++) {
                fault("0" + kind + cell, 3);
            }
            for (int cell = 20; cell <= 99; cell++) {
                fault("0" + kind + cell, 3);
            }
            fault("0" + kind + "110", 4);
            fault("0" + kind + "100", 4);
        }
    }

    private static void numbersOfTurns() {
        check.sentence("\"t\", a number (1 to 11; it is turned by that)");
        for (int by = 1; by <= 11; by++) {
            PictureLog x = new PictureLog();
            x.setWay(0);
            x.fill(2, 11, 11, 8);
            check.due("2t" + by, Check.read(x, "2t" + by), 0);
            check.due("the value of the last cell", x.cell(2, by - 1), 8);
            fault("0t0" + by, 2);
        }
        fault("0t0", 2);
        for (int by = 12; by <= 99; by++) {
            fault("0t" + by, 3);
        }
        fault("0t110", 4);
        fault("0t101", 4);
    }

    private static void rows() {
        check.sentence("one or more digits (a row of these values from the cell on; not beyond the cell 11)");
        for (int from = 0; from <= 11; from++) {
            String start = "5r" + from + "=";
            early(start);
            fault(start + ";", start.length());
            String whole = "987654321098".substring(from);
            for (int many = 1; many <= whole.length(); many++) {
                good(start + whole.substring(0, many));
            }
            fault(start + whole + "1", start.length() + whole.length());
            PictureLog x = new PictureLog();
            x.setWay(0);
            Check.read(x, start + whole);
            check.cells(start + whole, x, 5, "000000000000".substring(0, from) + whole);
        }
    }

    private static void twoDigitsIfItCan() {
        check.sentence("A number takes two digits if it can.");
        PictureLog x = new PictureLog();
        x.setWay(0);
        check.due("all of two digits", Check.read(x, "0f10-11=4;1f1-10=3;2a1-1+7;3r11=6;4r10=65;5f11-11=2"), 0);
        check.cells("0f10-11=4", x, 0, "000000000044");
        check.cells("1f1-10=3", x, 1, "033333333330");
        check.cells("2a1-1+7", x, 2, "070000000000");
        check.cells("3r11=6", x, 3, "000000000006");
        check.cells("4r10=65", x, 4, "000000000065");
        check.cells("5f11-11=2", x, 5, "000000000002");
        check.due("0t10", Check.read(x, "0t10"), 0);
        check.cells("0t10", x, 0, "000000004400");
        check.due("0t1;0t0", Check.read(x, "0t1;0t0"), -106);
    }

    private static void endsTooEarly() {
        check.sentence("or the length of the text if it ends too early");
        String text = "0f10-11=4;1a0-9+3;2t11;3r11=6;4p";
        Set<Integer> complete = Set.of(9, 17, 21, 22, 29, 32);
        for (int length = 0; length < text.length(); length++) {
            if (complete.contains(length)) {
                good(text.substring(0, length));
            } else if (length == 6) {
                fault(text.substring(0, length), 5);
            } else {
                early(text.substring(0, length));
            }
        }
        good(text);
    }

    private static void firstAndLastFault() {
        check.sentence("The fault of the text is the index, from 0, of the first character that is not allowed at its "
                + "place");
        fault("x", 0);
        fault("xx", 0);
        fault("0xx", 1);
        fault("0p;0f5-3=1;x", 7);
        String longest = "0p;".repeat(20);
        early(longest);
        early(longest.substring(0, 58));
        good(longest.substring(0, 59));
        fault(longest.substring(0, 59) + "p", 59);
        fault(longest.substring(0, 57) + "6", 57);
        check.refused("a fault at the last place", Made.typed(Made.RICH, longest.substring(0, 59) + "x"),
                PictureLog::readOrders, -159);
        check.refused("the longest text ends too early", Made.typed(Made.RICH, longest), PictureLog::readOrders, -160);
    }

    private static void everyCharacter() {
        check.sentence("character: any character");
        for (int sign = 0; sign <= 65535; sign++) {
            PictureLog x = new PictureLog();
            check.due("type(" + sign + ")", x.type((char) sign), 1);
            boolean page = sign >= '0' && sign <= '5';
            check.due("a text of the character " + sign, x.readOrders(), page ? -101 : -100);
            PictureLog y = new PictureLog();
            Check.type(y, "0r11=");
            y.type((char) sign);
            boolean digit = sign >= '0' && sign <= '9';
            check.holds("a value of the character " + sign, digit ? y.readOrders() >= 0 : y.readOrders() == -105);
        }
    }

    private static void allOrNone() {
        check.sentence("Does the orders of the text, which stays, one after the other; all of them, or none.");
        PictureLog x = new PictureLog();
        x.setWay(0);
        check.due("one after the other", Check.read(x, "0f0-5=3;0t6;0a6-11+9;0r0=1;0p"), 1);
        check.cells("done", x, 0, "100000222222");
        check.due("the text stays", x.count(13), 29);
        check.due("and is done again", x.readOrders(), 1);
        check.cells("done again", x, 0, "122222222222");
        check.sentence("FULL if there is no room for any of them when its turn comes");
        check.refused("the last one finds no room", Made.typed(Made.TIGHT, "0p;0t1"), PictureLog::readOrders, -3);
        check.refused("the first one finds no room", Made.typed(Made.PACKED, "0p;0t1"), PictureLog::readOrders, -3);
        check.refused("the second one finds no room", Made.typed(Made.TIGHT, "3t1;3t1;3t1"), PictureLog::readOrders, -3);
        check.due("both find room", Told.made(Made.typed(Made.TIGHT, "3t1;3t1")).readOrders(), 0);
        check.refused("a fault ahead of no room", Made.typed(Made.PACKED, "0p;0t1x"), PictureLog::readOrders, -106);
        check.refused("a fault behind good orders", Made.typed(Made.RICH, "0p;1p;2f0-3=5;3x"), PictureLog::readOrders,
                -115);
    }

    private static void picturesLogged() {
        check.sentence("Returns how many pictures are logged");
        PictureLog x = new PictureLog();
        x.setWay(0);
        check.due("no picture", Check.read(x, "0t1;1t1;2f0-0=1"), 0);
        check.due("one of three", Check.read(x, "0t1;1p;2f0-0=1"), 1);
        x.setWay(1);
        check.due("three of three", Check.read(x, "0t1;1p;2f0-0=1"), 3);
        x.setWay(2);
        x.setRoom(300);
        check.due("twenty", Check.read(x, "0p;".repeat(19) + "0p"), 20);
        check.due("pictures so far", x.count(9), 24);
        check.due("changes so far", x.count(10), 5);
    }

    private static void oneAct() {
        check.sentence("This is one act.");
        Consumer<PictureLog> made = Made.typed(Made.PLAIN, "0f0-5=3;0t6;1p");
        PictureLog x = Told.made(made);
        check.due("states ahead", x.count(12), 1);
        x.readOrders();
        check.due("states behind", x.count(12), 2);
        check.due("undo()", x.undo(), 1);
        check.due("all are undone", x.count(0), 0);
        check.cells("undone", x, 0, "000000000000");
        check.due("the text stays", x.count(13), 14);
        x.type('x');
        x.readOrders();
        check.due("a fault is no act", x.count(12), 1);
    }

    private static void lengthThen() {
        check.sentence("Returns the length that it had.");
        PictureLog x = new PictureLog();
        for (int length = 0; length <= 60; length++) {
            Check.type(x, "p".repeat(Math.min(length, 5)));
            check.due("clearText()", x.clearText(), Math.min(length, 5));
            check.due("clearText()", x.clearText(), 0);
        }
        Check.type(x, "0p");
        check.due("typed behind it", x.type(';'), 3);
        check.due("what is behind", x.readOrders(), -103);
        check.due("no states", x.count(12), 0);
        check.due("undo()", x.undo(), -5);
        check.due("undo leaves the text", x.count(13), 3);
        x.keep();
        x.clearText();
        x.restore();
        check.due("restore leaves the text", x.count(13), 0);
        x.undo();
        check.due("and so does undo", x.count(13), 0);
        Check.type(x, "0f1-11=4");
        x.clearText();
        Check.type(x, "0f1");
        check.due("what was there before is gone", x.readOrders(), -103);
    }
}
