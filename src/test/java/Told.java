import java.util.Arrays;

/** Everything that an object tells, as one row of numbers, so that two moments can be compared. */
final class Told {
    private Told() {
    }

    static int[] by(PictureLog x) {
        int[] row = new int[20000];
        int n = 0;
        for (int what = 0; what < 14; what++) {
            row[n++] = x.count(what);
        }
        row[n++] = x.bestRenewed();
        for (int page = 0; page < 6; page++) {
            for (int cell = 0; cell < 12; cell++) {
                row[n++] = x.cell(page, cell);
                row[n++] = x.stored(page, cell);
            }
            for (int what = 0; what < 7; what++) {
                row[n++] = x.page(page, what);
            }
            row[n++] = x.wouldLog(page, 3);
        }
        int next = x.count(0);
        for (int entry = next - x.count(1); entry < next; entry++) {
            for (int what = 0; what < 7; what++) {
                row[n++] = x.entry(entry, what);
            }
            for (int page = 0; page < 6; page++) {
                for (int cell = 0; cell < 12; cell++) {
                    row[n++] = x.asOf(page, entry, cell);
                }
            }
        }
        return Arrays.copyOf(row, n);
    }

    /** Tells a difference in words, or null without one. */
    static String difference(int[] one, int[] other) {
        int place = Arrays.mismatch(one, other);
        if (place < 0) {
            return null;
        }
        if (place >= one.length || place >= other.length) {
            return "another number of entries";
        }
        return "told number " + place + " was " + one[place] + " and is " + other[place];
    }
}
