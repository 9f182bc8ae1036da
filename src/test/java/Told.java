import java.util.ArrayList;
import java.util.HashMap;
import java.util.List;
import java.util.Map;
import java.util.function.Consumer;

/**
 * Everything that an object tells, so that two moments can be compared. An object is used for at most 512 calls, so
 * the questions go to several objects, each made by the same calls.
 */
final class Told {
    /** What one object is asked; the calls that make it are at most 500 less that. */
    private static final int QUESTIONS = 250;

    private final Consumer<PictureLog> calls;
    private final List<String> answers = new ArrayList<>();
    private PictureLog asked;
    private int left;

    private Told(Consumer<PictureLog> calls) {
        this.calls = calls;
    }

    static PictureLog made(Consumer<PictureLog> calls) {
        PictureLog x = new PictureLog();
        calls.accept(x);
        return x;
    }

    /** What the object tells now. */
    static Told now(Consumer<PictureLog> calls) {
        Told told = new Told(calls);
        told.ask();
        return told;
    }

    /** What the object tells now, in all states of the history, in the snapshot, and behind the orders of the text. */
    static Told whole(Consumer<PictureLog> calls) {
        Told told = now(calls);
        for (int states = told.next().count(12), i = 1; i <= states; i++) {
            int undone = i;
            told.askBehind("undo() " + i, x -> {
                for (int k = 0; k < undone; k++) {
                    x.undo();
                }
            });
        }
        told.add("restore()", told.next().restore());
        told.askBehind("restore()", PictureLog::restore);
        told.asked = null;
        told.add("readOrders()", told.next().readOrders());
        told.askBehind("readOrders()", PictureLog::readOrders);
        return told;
    }

    private void askBehind(String words, Consumer<PictureLog> more) {
        Told behind = now(calls.andThen(more));
        for (String answer : behind.answers) {
            answers.add("behind " + words + ": " + answer);
        }
    }

    private PictureLog next() {
        if (asked == null || left == 0) {
            asked = made(calls);
            left = QUESTIONS;
        }
        left--;
        return asked;
    }

    private void add(String call, int answer) {
        answers.add(call + " = " + answer);
    }

    private void ask() {
        for (int what = 0; what < 14; what++) {
            add("count(" + what + ")", next().count(what));
        }
        add("bestRenewed()", next().bestRenewed());
        for (int page = 0; page < 6; page++) {
            askPage(page);
        }
        int end = next().count(0);
        for (int entry = end - next().count(1); entry < end; entry++) {
            askEntry(entry);
        }
    }

    private void askPage(int page) {
        for (int cell = 0; cell < 12; cell++) {
            add("cell(" + page + ", " + cell + ")", next().cell(page, cell));
            add("stored(" + page + ", " + cell + ")", next().stored(page, cell));
        }
        for (int what = 0; what < 7; what++) {
            add("page(" + page + ", " + what + ")", next().page(page, what));
        }
        add("wouldLog(" + page + ", 3)", next().wouldLog(page, 3));
    }

    private void askEntry(int entry) {
        for (int what = 0; what < 7; what++) {
            add("entry(" + entry + ", " + what + ")", next().entry(entry, what));
        }
        for (int page = 0; page < 6; page++) {
            for (int cell = 0; cell < 12; cell++) {
                add("asOf(" + page + ", " + entry + ", " + cell + ")", next().asOf(page, entry, cell));
            }
        }
    }

    /** The calls that both moments know, and that are answered in another way. */
    List<String> changed(Told other) {
        Map<String, String> theirs = new HashMap<>();
        for (String answer : other.answers) {
            theirs.put(answer.split(" = ")[0], answer);
        }
        List<String> changed = new ArrayList<>();
        for (String answer : answers) {
            String call = answer.split(" = ")[0];
            if (!theirs.getOrDefault(call, answer).equals(answer)) {
                changed.add(call);
            }
        }
        return changed;
    }

    /** Tells a difference in words, or null without one. */
    String difference(Told other) {
        for (int i = 0; i < answers.size() && i < other.answers.size(); i++) {
            if (!answers.get(i).equals(other.answers.get(i))) {
                return answers.get(i) + " became " + other.answers.get(i);
            }
        }
        return answers.size() == other.answers.size() ? null : "another number of entries";
    }
}
