import java.util.HashMap;
import java.util.Map;
import java.util.function.Consumer;
import java.util.function.ToIntFunction;

/** Counts the answers that are not the due ones, and tells them. */
final class Check {
    /** A call with one number that is looked at. */
    interface Numbered {
        int call(PictureLog x, int number);
    }

    private final Map<Consumer<PictureLog>, Told> known = new HashMap<>();
    private String sentence = "";
    private int wrong;
    private int made;

    /** The words of the document that the checks from now on look at. */
    void sentence(String words) {
        sentence = words + ": ";
    }

    void due(String call, long got, long want) {
        made++;
        if (got != want) {
            wrong++;
            System.out.println(sentence + call + " answered " + got + ", due is " + want);
        }
    }

    void holds(String what, boolean truth) {
        made++;
        if (!truth) {
            wrong++;
            System.out.println(sentence + "does not hold: " + what);
        }
    }

    /** Checks all cells of a page against a text of twelve digits. */
    void cells(String when, PictureLog x, int page, String want) {
        for (int cell = 0; cell < 12; cell++) {
            due(when + ": cell(" + page + ", " + cell + ")", x.cell(page, cell), want.charAt(cell) - '0');
        }
    }

    /** Checks all cells of a page as of an entry against a text of twelve digits. */
    void cellsAsOf(PictureLog x, int page, int entry, String want) {
        for (int cell = 0; cell < 12; cell++) {
            due("asOf(" + page + ", " + entry + ", " + cell + ")", x.asOf(page, entry, cell), want.charAt(cell) - '0');
        }
    }

    /** Checks what a call with the numbers from 0 on answers: page(p, 0), page(p, 1) and so on. */
    void tells(String call, PictureLog x, Numbered asked, int... want) {
        for (int what = 0; what < want.length; what++) {
            due(call + " with " + what, asked.call(x, what), want[what]);
        }
    }

    /** Checks that a call has the due answer, and that it changes nothing. */
    void refused(String call, Consumer<PictureLog> calls, ToIntFunction<PictureLog> asked, int want) {
        due(call, asked.applyAsInt(Told.made(calls)), want);
        unchanged(call, calls, asked);
    }

    void unchanged(String call, Consumer<PictureLog> calls, ToIntFunction<PictureLog> asked) {
        Told before = known.computeIfAbsent(calls, Told::whole);
        String other = before.difference(Told.whole(calls.andThen(asked::applyAsInt)));
        holds(call + " changes nothing, but " + other, other == null);
    }

    /** Checks that a call takes the numbers of a range, and refuses those beside it, without a change. */
    void range(String call, Consumer<PictureLog> calls, int least, int most, int want, Numbered asked) {
        for (int good = least; good <= most; good++) {
            int answer = asked.call(Told.made(calls), good);
            holds(call + " takes " + good + ", but answered " + answer, answer >= 0);
        }
        for (int bad : new int[] {Integer.MIN_VALUE, least - 1, most + 1, Integer.MAX_VALUE}) {
            refused(call + " with " + bad, calls, x -> asked.call(x, bad), want);
        }
    }

    void end() {
        System.out.println(made + " checks, " + wrong + " wrong");
        if (wrong != 0) {
            System.exit(1);
        }
    }

    static void type(PictureLog x, String text) {
        for (int i = 0; i < text.length(); i++) {
            x.type(text.charAt(i));
        }
    }

    static int read(PictureLog x, String text) {
        x.clearText();
        type(x, text);
        return x.readOrders();
    }
}
