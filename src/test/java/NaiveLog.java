import java.util.ArrayList;
import java.util.List;
import java.util.regex.Matcher;
import java.util.regex.Pattern;

/** The document once more, written in another way and without any thrift, to compare answers with. */
final class NaiveLog {
    private static final Pattern TEXT = textPattern();
    private static final Pattern PAIR = Pattern.compile("[fa](1[01]|\\d)-(1[01]|\\d)");

    private State s = new State();
    private final List<State> past = new ArrayList<>();
    private State snapshot;
    private String text = "";

    /** The places of a row are exact; all that is said of it is looked up in lists. */
    private record E(int number, int page, int kind, int from, int to, int value, List<Integer> row, boolean damaged) {
        int size() {
            return switch (kind) {
                case 0 -> pictureSize(row);
                case 1, 2 -> 4;
                case 3 -> 3;
                default -> 3 + row.size();
            };
        }

        int time() {
            return switch (kind) {
                case 0 -> size();
                case 1, 2 -> 4 + (to - from + 1);
                case 3 -> 3 + 12;
                default -> 3 + row.size() + row.size();
            };
        }

        List<Integer> behind(List<Integer> cells) {
            List<Integer> out = new ArrayList<>(cells);
            for (int i = 0; i < 12; i++) {
                boolean in = i >= from && i <= to;
                switch (kind) {
                    case 0 -> out.set(i, row.get(i));
                    case 1 -> out.set(i, in ? value : cells.get(i));
                    case 2 -> out.set(i, in ? (cells.get(i) + value) % 10 : cells.get(i));
                    case 3 -> out.set((i + value) % 12, cells.get(i));
                    default -> out.set(i, in ? row.get(i - from) : cells.get(i));
                }
            }
            return out;
        }

        E as(int newNumber, boolean newDamaged) {
            return new E(newNumber, page, kind, from, to, value, row, newDamaged);
        }
    }

    private static final class State {
        List<List<Integer>> cells = new ArrayList<>();
        List<List<Integer>> copies = new ArrayList<>();
        int[] since = new int[6];
        boolean[] doubtful = new boolean[6];
        List<E> log = new ArrayList<>();
        List<E> dropped = new ArrayList<>();
        int next;
        int lastFlushed = -1;
        int room = 100;
        int way = 2;
        int pictures;
        int changes;
        int crashes;

        State() {
            for (int p = 0; p < 6; p++) {
                cells.add(List.of(0, 0, 0, 0, 0, 0, 0, 0, 0, 0, 0, 0));
                copies.add(List.of(0, 0, 0, 0, 0, 0, 0, 0, 0, 0, 0, 0));
            }
        }

        State copy() {
            State o = new State();
            o.cells = new ArrayList<>(cells);
            o.copies = new ArrayList<>(copies);
            o.since = since.clone();
            o.doubtful = doubtful.clone();
            o.log = new ArrayList<>(log);
            o.dropped = new ArrayList<>(dropped);
            o.next = next;
            o.lastFlushed = lastFlushed;
            o.room = room;
            o.way = way;
            o.pictures = pictures;
            o.changes = changes;
            o.crashes = crashes;
            return o;
        }
    }

    static int pictureSize(List<Integer> cells) {
        int runs = 0;
        Integer last = null;
        for (Integer c : cells) {
            if (!c.equals(last)) {
                runs++;
            }
            last = c;
        }
        return 2 + Math.min(12, runs * 2);
    }

    private List<E> needs(int page, List<E> log) {
        E picture = null;
        for (E e : log) {
            if (e.page == page && e.kind == 0 && e.number >= s.since[page]) {
                picture = e;
            }
        }
        List<E> out = new ArrayList<>();
        for (E e : log) {
            boolean late = picture == null || e.number >= picture.number;
            if (e.page == page && e.number >= s.since[page] && late) {
                out.add(e);
            }
        }
        return out;
    }

    private List<E> flushedOnes() {
        return s.log.stream().filter(e -> e.number <= s.lastFlushed).toList();
    }

    private List<E> allNeeded() {
        List<E> out = new ArrayList<>();
        for (E e : s.log) {
            if (needs(e.page, s.log).contains(e) || needs(e.page, flushedOnes()).contains(e)) {
                out.add(e);
            }
        }
        return out;
    }

    private int timeOf(int page) {
        List<E> need = needs(page, s.log);
        int time = need.isEmpty() || need.get(0).kind != 0 ? 5 : 0;
        return time + need.stream().mapToInt(E::time).sum();
    }

    private int sizes() {
        return s.log.stream().mapToInt(E::size).sum();
    }

    private boolean dropOne() {
        if (s.log.isEmpty()) {
            return false;
        }
        E oldest = s.log.get(0);
        if (oldest.number > s.lastFlushed || allNeeded().contains(oldest)) {
            return false;
        }
        s.dropped.add(s.log.remove(0));
        return true;
    }

    private boolean log(E e) {
        while (sizes() + e.size() > s.room) {
            if (!dropOne()) {
                return false;
            }
        }
        s.log.add(e.as(s.next, false));
        s.next++;
        if (e.kind == 0) {
            s.pictures++;
            s.doubtful[e.page] = false;
        } else {
            s.changes++;
        }
        return true;
    }

    private static E picture(int page, List<Integer> cells) {
        return new E(0, page, 0, 0, 11, 0, cells, false);
    }

    private boolean asPicture(E change) {
        List<Integer> after = change.behind(s.cells.get(change.page));
        return s.way == 1 || s.way == 2 && timeOf(change.page) + change.time() > picture(0, after).time();
    }

    /** The kind that was logged, or -3. */
    private int change(E e) {
        List<Integer> after = e.behind(s.cells.get(e.page));
        E logged = e.kind == 0 || asPicture(e) ? picture(e.page, after) : e;
        if (!log(logged)) {
            return -3;
        }
        s.cells.set(e.page, after);
        return logged.kind;
    }

    private int act(State before, int answer) {
        if (answer < 0) {
            s = before;
        } else {
            past.add(before);
            if (past.size() > 4) {
                past.remove(0);
            }
        }
        return answer;
    }

    private static boolean in(int value, int least, int most) {
        return least <= value && value <= most;
    }

    int fill(int page, int from, int to, int value) {
        if (!in(page, 0, 5) || !in(from, 0, 11) || !in(to, 0, 11)) {
            return -1;
        }
        if (to < from || !in(value, 0, 9)) {
            return -2;
        }
        return act(s.copy(), change(new E(0, page, 1, from, to, value, null, false)));
    }

    int add(int page, int from, int to, int amount) {
        if (!in(page, 0, 5) || !in(from, 0, 11) || !in(to, 0, 11)) {
            return -1;
        }
        if (to < from || !in(amount, 1, 9)) {
            return -2;
        }
        return act(s.copy(), change(new E(0, page, 2, from, to, amount, null, false)));
    }

    int turn(int page, int by) {
        if (!in(page, 0, 5)) {
            return -1;
        }
        if (!in(by, 1, 11)) {
            return -2;
        }
        return act(s.copy(), change(new E(0, page, 3, 0, 11, by, null, false)));
    }

    int renew(int page) {
        if (!in(page, 0, 5)) {
            return -1;
        }
        int number = s.next;
        return act(s.copy(), log(picture(page, s.cells.get(page))) ? number : -3);
    }

    private static Pattern textPattern() {
        StringBuilder pairs = new StringBuilder();
        for (int a = 0; a < 12; a++) {
            for (int b = a; b < 12; b++) {
                pairs.append(pairs.length() == 0 ? "" : "|").append(a + "-" + b);
            }
        }
        StringBuilder rows = new StringBuilder();
        for (int a = 0; a < 12; a++) {
            rows.append(a == 0 ? "" : "|").append(a + "=[0-9]{1," + (12 - a) + "}");
        }
        String order = "[0-5](?:f(?:" + pairs + ")=[0-9]|a(?:" + pairs + ")\\+[1-9]|t(?:[1-9]|1[01])|r(?:" + rows
                + ")|p)";
        return Pattern.compile(order + "(?:;" + order + ")*");
    }

    private static boolean couldGoOn(String start) {
        Matcher m = TEXT.matcher(start);
        return m.matches() || m.hitEnd();
    }

    /** The fault of a text, or -1. */
    static int fault(String text) {
        int fault = 0;
        while (fault < text.length() && couldGoOn(text.substring(0, fault + 1))) {
            fault++;
        }
        Matcher pair = PAIR.matcher(text);
        while (pair.find()) {
            if (Integer.parseInt(pair.group(2)) < Integer.parseInt(pair.group(1))) {
                fault = Math.min(fault, pair.end() - 1);
            }
        }
        return fault == text.length() && TEXT.matcher(text).matches() ? -1 : fault;
    }

    private E order(String order) {
        int page = order.charAt(0) - '0';
        String[] part = order.substring(2).split("[-+=]");
        char kind = order.charAt(1);
        if (kind == 'p') {
            return picture(page, s.cells.get(page));
        }
        int first = Integer.parseInt(part[0]);
        if (kind == 't') {
            return new E(0, page, 3, 0, 11, first, null, false);
        }
        if (kind == 'r') {
            List<Integer> row = part[1].chars().map(c -> c - '0').boxed().toList();
            return new E(0, page, 4, first, first + row.size() - 1, 0, row, false);
        }
        int last = Integer.parseInt(part[1]);
        return new E(0, page, kind == 'f' ? 1 : 2, first, last, Integer.parseInt(part[2]), null, false);
    }

    int readOrders() {
        int fault = fault(text);
        if (fault >= 0) {
            return -100 - fault;
        }
        State before = s.copy();
        int pictures = 0;
        for (String order : text.split(";")) {
            int kind = change(order(order));
            if (kind < 0) {
                return act(before, kind);
            }
            pictures += kind == 0 ? 1 : 0;
        }
        return act(before, pictures);
    }

    int setWay(int way) {
        if (!in(way, 0, 2)) {
            return -2;
        }
        if (way == s.way) {
            return -5;
        }
        State before = s.copy();
        s.way = way;
        return act(before, before.way);
    }

    int setRoom(int room) {
        if (!in(room, 30, 300)) {
            return -2;
        }
        State before = s.copy();
        while (sizes() > room) {
            if (!dropOne()) {
                return act(before, -4);
            }
        }
        s.room = room;
        return act(before, room == before.room ? -5 : before.room);
    }

    int flush() {
        State before = s.copy();
        int many = count(6);
        s.lastFlushed = s.next - 1;
        return act(before, many == 0 ? -5 : many);
    }

    int store(int page) {
        if (!in(page, 0, 5)) {
            return -1;
        }
        if (s.log.stream().anyMatch(e -> e.page == page && e.number > s.lastFlushed)) {
            return -4;
        }
        State before = s.copy();
        int needed = count(5);
        s.copies.set(page, s.cells.get(page));
        s.since[page] = s.lastFlushed + 1;
        s.doubtful[page] = false;
        return act(before, needed - count(5));
    }

    int trim() {
        State before = s.copy();
        int many = 0;
        while (dropOne()) {
            many++;
        }
        return act(before, many == 0 ? -5 : many);
    }

    private E held(int entry) {
        return s.log.stream().filter(e -> e.number == entry).findFirst().orElse(null);
    }

    int damage(int entry) {
        E e = held(entry);
        if (e == null) {
            return -1;
        }
        if (e.damaged) {
            return -5;
        }
        State before = s.copy();
        s.log.replaceAll(o -> o.number == entry ? o.as(entry, true) : o);
        int many = 0;
        for (int p = 0; p < 6; p++) {
            many += page(p, 5);
        }
        return act(before, many);
    }

    int crash() {
        State before = s.copy();
        int lost = count(6);
        s.log = new ArrayList<>(flushedOnes());
        s.next = s.lastFlushed + 1;
        s.crashes++;
        for (int p = 0; p < 6; p++) {
            List<E> log = s.log;
            List<E> need = needs(p, log);
            s.doubtful[p] = need.stream().anyMatch(E::damaged);
            while (need.stream().anyMatch(E::damaged)) {
                int bad = need.stream().filter(E::damaged).findFirst().orElseThrow().number;
                log = log.stream().filter(e -> e.number < bad).toList();
                need = needs(p, log);
            }
            List<Integer> cells = s.copies.get(p);
            for (E e : need) {
                cells = e.behind(cells);
            }
            s.cells.set(p, cells);
        }
        return act(before, lost);
    }

    int type(char character) {
        if (text.length() == 60) {
            return -3;
        }
        text += character;
        return text.length();
    }

    int clearText() {
        int length = text.length();
        text = "";
        return length;
    }

    int undo() {
        if (past.isEmpty()) {
            return -5;
        }
        s = past.remove(past.size() - 1);
        return past.size();
    }

    int keep() {
        snapshot = s.copy();
        return s.next;
    }

    int restore() {
        if (snapshot == null) {
            return -5;
        }
        State before = s;
        s = snapshot.copy();
        return act(before, s.next);
    }

    int cell(int page, int cell) {
        return in(page, 0, 5) && in(cell, 0, 11) ? s.cells.get(page).get(cell) : -1;
    }

    int page(int page, int what) {
        if (!in(page, 0, 5)) {
            return -1;
        }
        List<E> need = needs(page, s.log);
        return switch (what) {
            case 0 -> timeOf(page);
            case 1 -> need.size();
            case 2 -> need.isEmpty() ? -5 : need.get(0).number;
            case 3 -> s.since[page];
            case 4 -> s.doubtful[page] ? 1 : 0;
            case 5 -> need.stream().anyMatch(E::damaged) ? 1 : 0;
            case 6 -> pictureSize(s.cells.get(page));
            default -> -2;
        };
    }

    int stored(int page, int cell) {
        return in(page, 0, 5) && in(cell, 0, 11) ? s.copies.get(page).get(cell) : -1;
    }

    int entry(int entry, int what) {
        E e = held(entry);
        if (e == null) {
            return -1;
        }
        return switch (what) {
            case 0 -> e.page;
            case 1 -> e.kind;
            case 2 -> e.size();
            case 3 -> e.time();
            case 4 -> allNeeded().contains(e) ? 1 : 0;
            case 5 -> entry <= s.lastFlushed ? 1 : 0;
            case 6 -> e.damaged ? 1 : 0;
            default -> -2;
        };
    }

    int asOf(int page, int entry, int cell) {
        if (!in(page, 0, 5) || held(entry) == null || !in(cell, 0, 11)) {
            return -1;
        }
        List<E> upTo = s.log.stream().filter(e -> e.page == page && e.number <= entry).toList();
        E picture = null;
        for (E e : upTo) {
            picture = e.kind == 0 ? e : picture;
        }
        int start = picture == null ? s.since[page] : picture.number;
        if (picture == null && (start > entry + 1
                || s.dropped.stream().anyMatch(e -> e.page == page && e.number >= start))) {
            return -4;
        }
        List<E> used = upTo.stream().filter(e -> e.number >= start).toList();
        if (used.stream().anyMatch(E::damaged)) {
            return -4;
        }
        List<Integer> cells = s.copies.get(page);
        for (E e : used) {
            cells = e.behind(cells);
        }
        return cells.get(cell);
    }

    int wouldLog(int page, int value) {
        if (!in(page, 0, 5)) {
            return -1;
        }
        if (!in(value, 0, 9)) {
            return -2;
        }
        return asPicture(new E(0, page, 1, 0, 11, value, null, false)) ? 0 : 1;
    }

    int bestRenewed() {
        int best = -5;
        for (int p = 5; p >= 0; p--) {
            int less = timeOf(p) - pictureSize(s.cells.get(p));
            if (less > 0 && (best < 0 || less >= timeOf(best) - pictureSize(s.cells.get(best)))) {
                best = p;
            }
        }
        return best;
    }

    int count(int what) {
        int sum = 0;
        switch (what) {
            case 0: return s.next;
            case 1: return s.log.size();
            case 2: return sizes();
            case 3: return s.room;
            case 4: return s.way;
            case 5: return allNeeded().size();
            case 6: return (int) s.log.stream().filter(e -> e.number > s.lastFlushed).count();
            case 7:
                for (int p = 0; p < 6; p++) {
                    sum += timeOf(p);
                }
                return sum;
            case 8:
                for (boolean d : s.doubtful) {
                    sum += d ? 1 : 0;
                }
                return sum;
            case 9: return s.pictures;
            case 10: return s.changes;
            case 11: return s.crashes;
            case 12: return past.size();
            case 13: return text.length();
            default: return -2;
        }
    }
}
