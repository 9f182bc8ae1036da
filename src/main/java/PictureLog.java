import java.util.Arrays;

/**
 * Pages that are changed, and a log that keeps of each change either the change itself or a
 * picture of the whole page, whichever brings the page back sooner.
 */
public final class PictureLog {
    public static final int UNKNOWN = -1;
    public static final int BAD_VALUE = -2;
    public static final int FULL = -3;
    public static final int NOT_POSSIBLE = -4;
    public static final int NONE = -5;

    private static final int PAGES = 6;
    private static final int CELLS = 12;
    private static final int VALUES = 10;

    private static final int PICTURE = 0;
    private static final int FILL = 1;
    private static final int ADD = 2;
    private static final int TURN = 3;
    private static final int ROW = 4;

    private static final int WAY_CHANGES = 0;
    private static final int WAY_PICTURES = 1;
    private static final int WAY_SOONER = 2;

    private static final int LEAST_ROOM = 30;
    private static final int MOST_ROOM = 300;
    private static final int FIRST_ROOM = 100;
    /** The smallest entry, a turn, has the size 3, so the greatest room holds no more than this. */
    private static final int MOST_ENTRIES = MOST_ROOM / 3;
    private static final int COPY_TIME = 5;

    private static final int MOST_STATES = 4;
    private static final int MOST_TEXT = 60;
    /** One more than the text can hold: 20 orders such as "0p" and 19 signs between them. */
    private static final int MOST_ORDERS = 21;
    private static final int FAULT = -100;

    private static final int[] NO_VALUES = {};

    private final State now;
    /** The states from the oldest to the latest; the one behind them is where an act is tried from. */
    private final State[] history;
    private int states;
    private final State snapshot;
    private boolean hasSnapshot;
    private final char[] text;
    private int length;

    public PictureLog() {
        now = new State();
        history = new State[MOST_STATES + 1];
        for (int i = 0; i < history.length; i++) {
            history[i] = new State();
        }
        snapshot = new State();
        text = new char[MOST_TEXT];
    }

    // ---- changes

    public int fill(int page, int from, int to, int value) {
        if (!isPage(page) || !isCell(from) || !isCell(to)) {
            return UNKNOWN;
        }
        if (to < from || !isValue(value)) {
            return BAD_VALUE;
        }
        begin();
        return end(now.carryOut(Entry.ofCells(page, FILL, from, to, value)));
    }

    public int add(int page, int from, int to, int amount) {
        if (!isPage(page) || !isCell(from) || !isCell(to)) {
            return UNKNOWN;
        }
        if (to < from || amount < 1 || amount >= VALUES) {
            return BAD_VALUE;
        }
        begin();
        return end(now.carryOut(Entry.ofCells(page, ADD, from, to, amount)));
    }

    public int turn(int page, int by) {
        if (!isPage(page)) {
            return UNKNOWN;
        }
        if (by < 1 || by >= CELLS) {
            return BAD_VALUE;
        }
        begin();
        return end(now.carryOut(Entry.ofTurn(page, by)));
    }

    public int renew(int page) {
        if (!isPage(page)) {
            return UNKNOWN;
        }
        begin();
        int number = now.log.next();
        return end(now.carryOut(Entry.ofRenewal(page)) == FULL ? FULL : number);
    }

    public int readOrders() {
        Reader reader = new Reader(text, length);
        if (!reader.readAll()) {
            return FAULT - reader.at;
        }
        begin();
        int picturesBefore = now.pictures;
        for (int i = 0; i < reader.orders; i++) {
            Entry asked = reader.order(i);
            if (asked != null && now.carryOut(asked) == FULL) {
                return end(FULL);
            }
        }
        return end(now.pictures - picturesBefore);
    }

    // ---- log and store

    public int setWay(int way) {
        if (way < WAY_CHANGES || way > WAY_SOONER) {
            return BAD_VALUE;
        }
        begin();
        return end(now.changeWay(way));
    }

    public int setRoom(int room) {
        if (room < LEAST_ROOM || room > MOST_ROOM) {
            return BAD_VALUE;
        }
        begin();
        return end(now.changeRoom(room));
    }

    public int flush() {
        begin();
        return end(now.flushAll());
    }

    public int store(int page) {
        if (!isPage(page)) {
            return UNKNOWN;
        }
        begin();
        return end(now.storePage(page));
    }

    public int trim() {
        begin();
        int dropped = now.dropDownTo(0);
        return end(dropped == 0 ? NONE : dropped);
    }

    public int damage(int entry) {
        if (!now.log.holds(entry)) {
            return UNKNOWN;
        }
        begin();
        return end(now.harm(entry));
    }

    public int crash() {
        begin();
        return end(now.breakDown());
    }

    // ---- texts

    public int type(char character) {
        if (length >= text.length) {
            return FULL;
        }
        text[length] = character;
        length++;
        return length;
    }

    public int clearText() {
        int before = length;
        length = 0;
        return before;
    }

    // ---- history

    public int undo() {
        if (states == 0) {
            return NONE;
        }
        states--;
        now.copyFrom(history[states]);
        return states;
    }

    public int keep() {
        snapshot.copyFrom(now);
        hasSnapshot = true;
        return now.log.next();
    }

    public int restore() {
        if (!hasSnapshot) {
            return NONE;
        }
        begin();
        now.copyFrom(snapshot);
        return end(now.log.next());
    }

    // ---- what is told

    public int cell(int page, int cell) {
        return isPage(page) && isCell(cell) ? now.pages[page].cells[cell] : UNKNOWN;
    }

    public int page(int page, int what) {
        if (!isPage(page)) {
            return UNKNOWN;
        }
        int next = now.log.next();
        int needed = now.firstNeeded(page, next);
        switch (what) {
            case 0:
                return now.timeToRestore(page);
            case 1:
                return now.log.entriesOf(page, needed, next);
            case 2:
                return needed < next ? needed : NONE;
            case 3:
                return now.pages[page].since;
            case 4:
                return asNumber(now.pages[page].doubtful);
            case 5:
                return asNumber(now.needsDamaged(page));
            case 6:
                return Entry.sizeOfPicture(now.pages[page].cells);
            default:
                return BAD_VALUE;
        }
    }

    public int stored(int page, int cell) {
        return isPage(page) && isCell(cell) ? now.pages[page].copy[cell] : UNKNOWN;
    }

    public int entry(int entry, int what) {
        Entry told = now.log.at(entry);
        if (told == null) {
            return UNKNOWN;
        }
        switch (what) {
            case 0:
                return told.page;
            case 1:
                return told.kind;
            case 2:
                return told.size;
            case 3:
                return told.time();
            case 4:
                return asNumber(now.isNeeded(entry));
            case 5:
                return asNumber(entry < now.log.flushed);
            case 6:
                return asNumber(told.damaged);
            default:
                return BAD_VALUE;
        }
    }

    public int asOf(int page, int entry, int cell) {
        if (!isPage(page) || !now.log.holds(entry) || !isCell(cell)) {
            return UNKNOWN;
        }
        int[] row = new int[CELLS];
        return now.bringBackAsOf(page, entry + 1, row) ? row[cell] : NOT_POSSIBLE;
    }

    public int wouldLog(int page, int value) {
        if (!isPage(page)) {
            return UNKNOWN;
        }
        if (!isValue(value)) {
            return BAD_VALUE;
        }
        Entry change = Entry.ofCells(page, FILL, 0, CELLS - 1, value);
        return now.isLoggedAsPicture(change, now.rowBehind(change)) ? PICTURE : FILL;
    }

    public int bestRenewed() {
        int best = NONE;
        int most = 0;
        for (int page = 0; page < PAGES; page++) {
            int less = now.timeToRestore(page) - Entry.sizeOfPicture(now.pages[page].cells);
            if (less > most) {
                most = less;
                best = page;
            }
        }
        return best;
    }

    public int count(int what) {
        switch (what) {
            case 0:
                return now.log.next();
            case 1:
                return now.log.held;
            case 2:
                return now.log.sizes();
            case 3:
                return now.log.room;
            case 4:
                return now.way;
            case 5:
                return now.neededEntries();
            case 6:
                return now.log.next() - now.log.flushed;
            case 7:
                return now.timeToRestoreAll();
            case 8:
                return now.doubtfulPages();
            case 9:
                return now.pictures;
            case 10:
                return now.changes;
            case 11:
                return now.crashes;
            case 12:
                return states;
            case 13:
                return length;
            default:
                return BAD_VALUE;
        }
    }

    private static boolean isPage(int page) {
        return page >= 0 && page < PAGES;
    }

    private static boolean isCell(int cell) {
        return cell >= 0 && cell < CELLS;
    }

    private static boolean isValue(int value) {
        return value >= 0 && value < VALUES;
    }

    private static int asNumber(boolean truth) {
        return truth ? 1 : 0;
    }

    private void begin() {
        history[states].copyFrom(now);
    }

    /** An error and NONE, which are all negative, undo what was tried; another answer records it. */
    private int end(int answer) {
        if (answer < 0) {
            now.copyFrom(history[states]);
        } else if (states < MOST_STATES) {
            states++;
        } else {
            forgetOldest();
        }
        return answer;
    }

    private void forgetOldest() {
        State oldest = history[0];
        for (int i = 1; i < history.length; i++) {
            history[i - 1] = history[i];
        }
        history[history.length - 1] = oldest;
    }

    /** A picture of a page, or a change of it. States share entries, so none is ever changed. */
    private static final class Entry {
        final int page;
        final int kind;
        final int from;
        final int to;
        /** What is filled in or added, or by how much the page is turned. */
        final int amount;
        /** The values of the cells from the first one on, of a picture and of a row; of others none. */
        final int[] values;
        final boolean damaged;
        final int size;

        private Entry(int page, int kind, int from, int to, int amount, int[] values, boolean damaged) {
            this.page = page;
            this.kind = kind;
            this.from = from;
            this.to = to;
            this.amount = amount;
            this.values = values;
            this.damaged = damaged;
            if (kind == PICTURE) {
                this.size = sizeOfPicture(values);
            } else {
                this.size = kind == FILL || kind == ADD ? 4 : 3 + values.length;
            }
        }

        static Entry ofCells(int page, int kind, int from, int to, int amount) {
            return new Entry(page, kind, from, to, amount, NO_VALUES, false);
        }

        static Entry ofTurn(int page, int by) {
            return new Entry(page, TURN, 0, CELLS - 1, by, NO_VALUES, false);
        }

        static Entry ofRow(int page, int from, int[] values) {
            return new Entry(page, ROW, from, from + values.length - 1, 0, values, false);
        }

        static Entry ofPicture(int page, int[] values) {
            return new Entry(page, PICTURE, 0, CELLS - 1, 0, values, false);
        }

        /** A picture that is still to be taken: without values of its own it leaves a row as it is. */
        static Entry ofRenewal(int page) {
            return ofPicture(page, NO_VALUES);
        }

        Entry asDamaged() {
            return new Entry(page, kind, from, to, amount, values, true);
        }

        static int sizeOfPicture(int[] cells) {
            int runs = 1;
            for (int cell = 1; cell < cells.length; cell++) {
                if (cells[cell] != cells[cell - 1]) {
                    runs++;
                }
            }
            return 2 + (2 * runs < CELLS ? 2 * runs : CELLS);
        }

        int time() {
            return kind == PICTURE ? size : size + to - from + 1;
        }

        void applyTo(int[] cells) {
            if (kind == TURN) {
                turnRow(cells);
                return;
            }
            for (int cell = from; cell >= 0 && cell <= to && cell < cells.length; cell++) {
                cells[cell] = valueFor(cell, cells[cell]);
            }
        }

        private int valueFor(int cell, int old) {
            if (kind == FILL) {
                return amount;
            }
            if (kind == ADD) {
                return (old + amount) % VALUES;
            }
            int place = cell - from;
            return place >= 0 && place < values.length ? values[place] : old;
        }

        /** Three reversals turn the row where it stands, without a second one. */
        private void turnRow(int[] cells) {
            reverse(cells, 0, cells.length - 1);
            reverse(cells, 0, amount - 1);
            reverse(cells, amount, cells.length - 1);
        }

        private static void reverse(int[] cells, int from, int to) {
            int left = from;
            int right = to;
            while (left >= 0 && left < right && right < cells.length) {
                int value = cells[left];
                cells[left] = cells[right];
                cells[right] = value;
                left++;
                right--;
            }
        }
    }

    /** The latest entries, one behind the other. */
    private static final class Log {
        private final Entry[] entries = new Entry[MOST_ENTRIES];
        int first;
        int held;
        /** The number of the entry behind the last one that is flushed. */
        int flushed;
        int room = FIRST_ROOM;

        void copyFrom(Log other) {
            for (int i = 0; i < MOST_ENTRIES; i++) {
                entries[i] = other.entries[i];
            }
            first = other.first;
            held = other.held;
            flushed = other.flushed;
            room = other.room;
        }

        int next() {
            return first + held;
        }

        boolean holds(int number) {
            return number >= first && number < next();
        }

        /** The entry of this number; null if the log does not hold it. */
        Entry at(int number) {
            int place = number - first;
            return number >= first && place < held && place < MOST_ENTRIES ? entries[place] : null;
        }

        void replace(int number, Entry entry) {
            int place = number - first;
            if (number >= first && place < held && place < MOST_ENTRIES) {
                entries[place] = entry;
            }
        }

        void append(Entry entry) {
            if (held < MOST_ENTRIES) {
                entries[held] = entry;
                held++;
            }
        }

        void dropFirst() {
            for (int i = 1; i < held && i < MOST_ENTRIES; i++) {
                entries[i - 1] = entries[i];
            }
            if (held > 0) {
                first++;
                held--;
            }
        }

        int loseUnflushed() {
            int lost = next() - flushed;
            held = flushed - first;
            return lost;
        }

        int sizes() {
            int sum = 0;
            for (int number = first; number < next(); number++) {
                Entry entry = at(number);
                if (entry != null) {
                    sum += entry.size;
                }
            }
            return sum;
        }

        int entriesOf(int page, int from, int end) {
            int found = 0;
            for (int number = Math.max(from, first); number < end; number++) {
                Entry entry = at(number);
                if (entry != null && entry.page == page) {
                    found++;
                }
            }
            return found;
        }

        int timesOf(int page, int from, int end) {
            int sum = 0;
            for (int number = Math.max(from, first); number < end; number++) {
                Entry entry = at(number);
                if (entry != null && entry.page == page) {
                    sum += entry.time();
                }
            }
            return sum;
        }

        /** The latest picture of the page ahead of the end; NONE without one. */
        int latestPicture(int page, int end) {
            for (int number = end - 1; number >= first; number--) {
                Entry entry = at(number);
                if (entry != null && entry.page == page && entry.kind == PICTURE) {
                    return number;
                }
            }
            return NONE;
        }

        /** The first damaged entry of the page from one on; the end without one. */
        int firstDamaged(int page, int from, int end) {
            for (int number = Math.max(from, first); number < end; number++) {
                Entry entry = at(number);
                if (entry != null && entry.page == page && entry.damaged) {
                    return number;
                }
            }
            return end;
        }
    }

    /** A page, and its copy in the store. */
    private static final class Page {
        final int[] cells = new int[CELLS];
        final int[] copy = new int[CELLS];
        /** The number of the entry as of which the copy is. */
        int since;
        boolean doubtful;
        /** The number behind the latest entry of the page that was dropped; 0 without one. */
        int droppedTo;

        void copyFrom(Page other) {
            System.arraycopy(other.cells, 0, cells, 0, CELLS);
            System.arraycopy(other.copy, 0, copy, 0, CELLS);
            since = other.since;
            doubtful = other.doubtful;
            droppedTo = other.droppedTo;
        }
    }

    /** Everything but the text, the history and the snapshot. */
    private static final class State {
        final Page[] pages = new Page[PAGES];
        final Log log = new Log();
        int way = WAY_SOONER;
        int pictures;
        int changes;
        int crashes;

        State() {
            for (int page = 0; page < PAGES; page++) {
                pages[page] = new Page();
            }
        }

        void copyFrom(State other) {
            for (int page = 0; page < PAGES; page++) {
                pages[page].copyFrom(other.pages[page]);
            }
            log.copyFrom(other.log);
            way = other.way;
            pictures = other.pictures;
            changes = other.changes;
            crashes = other.crashes;
        }

        /** The first entry that the page needs of those ahead of the end; the end if it needs none. */
        int firstNeeded(int page, int end) {
            int oldest = Math.max(log.first, pages[page].since);
            int found = end;
            for (int number = end - 1; number >= oldest; number--) {
                Entry entry = log.at(number);
                if (entry != null && entry.page == page) {
                    found = number;
                    if (entry.kind == PICTURE) {
                        return found;
                    }
                }
            }
            return found;
        }

        /** Looks at the flushed entries alone, too: a crash, which takes the others, must find what it needs. */
        boolean isNeeded(int number) {
            Entry entry = log.at(number);
            if (entry == null) {
                return false;
            }
            return number >= firstNeeded(entry.page, log.next())
                    || (number < log.flushed && number >= firstNeeded(entry.page, log.flushed));
        }

        int neededEntries() {
            int needed = 0;
            for (int number = log.first; number < log.next(); number++) {
                if (isNeeded(number)) {
                    needed++;
                }
            }
            return needed;
        }

        int timeToRestore(int page) {
            int end = log.next();
            int needed = firstNeeded(page, end);
            Entry start = log.at(needed);
            int base = start != null && start.kind == PICTURE ? 0 : COPY_TIME;
            return base + log.timesOf(page, needed, end);
        }

        int timeToRestoreAll() {
            int sum = 0;
            for (int page = 0; page < PAGES; page++) {
                sum += timeToRestore(page);
            }
            return sum;
        }

        int doubtfulPages() {
            int doubtful = 0;
            for (int page = 0; page < PAGES; page++) {
                if (pages[page].doubtful) {
                    doubtful++;
                }
            }
            return doubtful;
        }

        boolean needsDamaged(int page) {
            int end = log.next();
            return log.firstDamaged(page, firstNeeded(page, end), end) < end;
        }

        /** The end of the entries that the page is restored from, so that it needs no damaged one. */
        private int endOfSound(int page) {
            int end = log.next();
            for (int i = 0; i < MOST_ENTRIES; i++) {
                int damaged = log.firstDamaged(page, firstNeeded(page, end), end);
                if (damaged == end) {
                    return end;
                }
                end = damaged;
            }
            return end;
        }

        private void replay(int page, int from, int end, int[] row) {
            System.arraycopy(pages[page].copy, 0, row, 0, CELLS);
            for (int number = Math.max(from, log.first); number < end; number++) {
                Entry entry = log.at(number);
                if (entry != null && entry.page == page) {
                    entry.applyTo(row);
                }
            }
        }

        /** Puts the page as it was ahead of the end into the row; false if that is not possible. */
        boolean bringBackAsOf(int page, int end, int[] row) {
            int from = log.latestPicture(page, end);
            if (from == NONE) {
                from = pages[page].since;
                if (from > end || pages[page].droppedTo > from) {
                    return false;
                }
            }
            if (log.firstDamaged(page, from, end) < end) {
                return false;
            }
            replay(page, from, end, row);
            return true;
        }

        int[] rowBehind(Entry asked) {
            int[] row = pages[asked.page].cells.clone();
            asked.applyTo(row);
            return row;
        }

        boolean isLoggedAsPicture(Entry asked, int[] row) {
            if (asked.kind == PICTURE || way == WAY_PICTURES) {
                return true;
            }
            return way == WAY_SOONER
                    && timeToRestore(asked.page) + asked.time() > Entry.sizeOfPicture(row);
        }

        /** Does a change or a renewal; tells the kind of the entry that is logged, or FULL. */
        int carryOut(Entry asked) {
            int[] row = rowBehind(asked);
            int answer = append(isLoggedAsPicture(asked, row) ? Entry.ofPicture(asked.page, row) : asked);
            if (answer != FULL) {
                System.arraycopy(row, 0, pages[asked.page].cells, 0, CELLS);
            }
            return answer;
        }

        private int append(Entry entry) {
            dropDownTo(log.room - entry.size);
            if (log.sizes() + entry.size > log.room) {
                return FULL;
            }
            log.append(entry);
            if (entry.kind == PICTURE) {
                pictures++;
                pages[entry.page].doubtful = false;
            } else {
                changes++;
            }
            return entry.kind;
        }

        /** Drops the oldest entries that may go, as long as the log holds more than these sizes. */
        int dropDownTo(int sizes) {
            int dropped = 0;
            while (dropped < MOST_ENTRIES && log.sizes() > sizes
                    && log.first < log.flushed && !isNeeded(log.first)) {
                dropOldest();
                dropped++;
            }
            return dropped;
        }

        private void dropOldest() {
            Entry oldest = log.at(log.first);
            if (oldest != null) {
                pages[oldest.page].droppedTo = log.first + 1;
                log.dropFirst();
            }
        }

        int changeWay(int wanted) {
            int before = way;
            way = wanted;
            return before == wanted ? NONE : before;
        }

        int changeRoom(int wanted) {
            int before = log.room;
            dropDownTo(wanted);
            if (log.sizes() > wanted) {
                return NOT_POSSIBLE;
            }
            log.room = wanted;
            return before == wanted ? NONE : before;
        }

        int flushAll() {
            int flushed = log.next() - log.flushed;
            log.flushed = log.next();
            return flushed == 0 ? NONE : flushed;
        }

        int storePage(int page) {
            if (log.entriesOf(page, log.flushed, log.next()) > 0) {
                return NOT_POSSIBLE;
            }
            int before = neededEntries();
            Page stored = pages[page];
            System.arraycopy(stored.cells, 0, stored.copy, 0, CELLS);
            stored.since = log.flushed;
            stored.doubtful = false;
            return before - neededEntries();
        }

        int harm(int number) {
            Entry entry = log.at(number);
            if (entry == null) {
                return UNKNOWN;
            }
            if (entry.damaged) {
                return NONE;
            }
            log.replace(number, entry.asDamaged());
            int needing = 0;
            for (int page = 0; page < PAGES; page++) {
                if (needsDamaged(page)) {
                    needing++;
                }
            }
            return needing;
        }

        /** A crash: how many entries are lost by it. */
        int breakDown() {
            int lost = log.loseUnflushed();
            for (int page = 0; page < PAGES; page++) {
                int end = endOfSound(page);
                replay(page, firstNeeded(page, end), end, pages[page].cells);
                pages[page].doubtful = end < log.next();
            }
            crashes++;
            return lost;
        }
    }

    /** Reads the orders of a text; where it has a fault, it stops at the place of it. */
    private static final class Reader {
        private final char[] text;
        private final int length;
        private final Entry[] found = new Entry[MOST_ORDERS];
        int orders;
        int at;

        Reader(char[] text, int length) {
            this.text = text;
            this.length = length;
        }

        Entry order(int index) {
            return index >= 0 && index < MOST_ORDERS ? found[index] : null;
        }

        boolean readAll() {
            while (orders < MOST_ORDERS) {
                Entry order = readOrder();
                if (order == null) {
                    return false;
                }
                found[orders] = order;
                orders++;
                if (at >= length) {
                    return true;
                }
                if (!readSign(';')) {
                    return false;
                }
            }
            return false;
        }

        private Entry readOrder() {
            int page = readDigit(0, PAGES - 1);
            if (page == NONE) {
                return null;
            }
            if (readSign('f')) {
                return readCells(page, FILL, '=', 0);
            }
            if (readSign('a')) {
                return readCells(page, ADD, '+', 1);
            }
            if (readSign('t')) {
                int by = readNumber(1);
                return by == NONE ? null : Entry.ofTurn(page, by);
            }
            if (readSign('r')) {
                return readRow(page);
            }
            return readSign('p') ? Entry.ofRenewal(page) : null;
        }

        private Entry readCells(int page, int kind, char mark, int leastAmount) {
            int from = readNumber(0);
            if (from == NONE || !readSign('-')) {
                return null;
            }
            int to = readNumber(0);
            if (to != NONE && to < from) {
                at--;
                return null;
            }
            if (to == NONE || !readSign(mark)) {
                return null;
            }
            int amount = readDigit(leastAmount, VALUES - 1);
            return amount == NONE ? null : Entry.ofCells(page, kind, from, to, amount);
        }

        private Entry readRow(int page) {
            int from = readNumber(0);
            if (from == NONE || !readSign('=')) {
                return null;
            }
            int[] values = new int[CELLS];
            int many = 0;
            while (from + many < CELLS && hasDigit(0, VALUES - 1)) {
                values[many] = readDigit(0, VALUES - 1);
                many++;
            }
            return many == 0 ? null : Entry.ofRow(page, from, Arrays.copyOf(values, many));
        }

        /** A number up to 11, of two digits if it can be; NONE if there is none. */
        private int readNumber(int least) {
            int digit = readDigit(least, VALUES - 1);
            if (digit == 1 && hasDigit(0, CELLS - 1 - VALUES)) {
                return VALUES + readDigit(0, CELLS - 1 - VALUES);
            }
            return digit;
        }

        private boolean hasDigit(int least, int most) {
            if (at < 0 || at >= length || at >= text.length) {
                return false;
            }
            int digit = text[at] - '0';
            return digit >= least && digit <= most;
        }

        private int readDigit(int least, int most) {
            if (!hasDigit(least, most)) {
                return NONE;
            }
            int digit = text[at] - '0';
            at++;
            return digit;
        }

        private boolean readSign(char sign) {
            if (at < 0 || at >= length || at >= text.length || text[at] != sign) {
                return false;
            }
            at++;
            return true;
        }
    }
}
