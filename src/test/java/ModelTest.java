import java.util.Random;

/** Random runs of 512 calls, each answer compared with that of the naive model. */
public final class ModelTest {
    private static final int RUNS = 600;
    /** More calls than the longest text of orders takes, so that a run has not more than 512. */
    private static final int MOST_OF_ORDERS = 110;
    private static final int[] ODD = {Integer.MIN_VALUE, -100, -2, -1, 12, 13, 99, 300, Integer.MAX_VALUE};
    private static final String SIGNS = "0123456789fatrp;-=+01 x";
    private static final Check check = new Check();

    private final Random random;
    private final PictureLog x = new PictureLog();
    private final NaiveLog naive = new NaiveLog();
    private final StringBuilder calls = new StringBuilder();
    private final int pages;
    private final int oddity;
    private final int bias;
    private int left = 512;

    private ModelTest(long seed) {
        random = new Random(seed);
        pages = 1 + random.nextInt(6);
        oddity = random.nextBoolean() ? 12 : 60;
        bias = random.nextInt(4);
    }

    public static void main(String[] args) {
        long first = args.length > 0 ? Long.parseLong(args[0]) : 0;
        int runs = args.length > 1 ? Integer.parseInt(args[1]) : RUNS;
        int bad = 0;
        for (long seed = first; seed < first + runs && bad < 3; seed++) {
            bad += new ModelTest(seed).run() ? 0 : 1;
        }
        check.due("runs that differ from the model", bad, 0);
        for (long seed = first; seed < first + 10 * runs; seed++) {
            new ModelTest(seed).faultOfText();
        }
        check.end();
    }

    private boolean run() {
        while (left > 0) {
            int act = random.nextInt(100);
            boolean orders = act >= 55 && act < 58 && left > MOST_OF_ORDERS;
            boolean alike = orders ? orders() : act < 58 ? tell() : act(act);
            if (!alike) {
                System.out.println(calls);
                return false;
            }
        }
        return true;
    }

    private boolean alike(String call, int got, int want) {
        left--;
        calls.append(call).append(" -> ").append(got).append('\n');
        if (got != want) {
            calls.append("  but the model says ").append(want);
        }
        return got == want;
    }

    /** A number below the bound, now and then an odd one. */
    private int number(int least, int bound) {
        return random.nextInt(oddity) == 0 ? ODD[random.nextInt(ODD.length)] : least + random.nextInt(bound - least);
    }

    private int pageNumber() {
        return random.nextInt(oddity) == 0 ? number(-1, 7) : random.nextInt(pages);
    }

    private int entryNumber() {
        int held = Math.max(1, naive.count(1) + (random.nextInt(10) == 0 ? 3 : 0));
        return number(naive.count(0) - held, naive.count(0) + (random.nextInt(10) == 0 ? 2 : 0) + 1) - random.nextInt(2);
    }

    private boolean act(int act) {
        int p = pageNumber();
        int from = number(0, 12);
        int to = random.nextInt(8) == 0 ? number(0, 12) : Math.min(11, Math.max(0, from) + random.nextInt(4));
        int v = number(0, 10);
        if (act < 66) {
            return alike("fill(" + p + ", " + from + ", " + to + ", " + v + ")", x.fill(p, from, to, v),
                    naive.fill(p, from, to, v));
        } else if (act < 72) {
            return alike("add(" + p + ", " + from + ", " + to + ", " + v + ")", x.add(p, from, to, v),
                    naive.add(p, from, to, v));
        } else if (act < 75) {
            return alike("turn(" + p + ", " + from + ")", x.turn(p, from), naive.turn(p, from));
        } else if (act < 78) {
            return alike("renew(" + p + ")", x.renew(p), naive.renew(p));
        } else if (act < 80) {
            int way = bias == 3 ? number(0, 3) : random.nextInt(6) == 0 ? number(0, 3) : bias;
            return alike("setWay(" + way + ")", x.setWay(way), naive.setWay(way));
        } else if (act < 82) {
            int room = random.nextInt(3) == 0 ? number(25, 305) : 30 + random.nextInt(40);
            return alike("setRoom(" + room + ")", x.setRoom(room), naive.setRoom(room));
        } else if (act < 86) {
            return alike("flush()", x.flush(), naive.flush());
        } else if (act < 89) {
            return alike("store(" + p + ")", x.store(p), naive.store(p));
        } else if (act < 91) {
            return alike("trim()", x.trim(), naive.trim());
        } else if (act < 93) {
            int e = entryNumber();
            return alike("damage(" + e + ")", x.damage(e), naive.damage(e));
        } else if (act < 95) {
            return alike("crash()", x.crash(), naive.crash());
        } else if (act < 98) {
            return alike("undo()", x.undo(), naive.undo());
        } else if (act < 99) {
            return alike("keep()", x.keep(), naive.keep());
        }
        return alike("restore()", x.restore(), naive.restore());
    }

    private boolean tell() {
        int p = pageNumber();
        int c = number(0, 12);
        int e = entryNumber();
        int what = number(0, 7);
        switch (random.nextInt(9)) {
            case 0:
                return alike("cell(" + p + ", " + c + ")", x.cell(p, c), naive.cell(p, c));
            case 1:
                return alike("stored(" + p + ", " + c + ")", x.stored(p, c), naive.stored(p, c));
            case 2:
                return alike("page(" + p + ", " + what + ")", x.page(p, what), naive.page(p, what));
            case 3:
                return alike("entry(" + e + ", " + what + ")", x.entry(e, what), naive.entry(e, what));
            case 4:
            case 5:
                return alike("asOf(" + p + ", " + e + ", " + c + ")", x.asOf(p, e, c), naive.asOf(p, e, c));
            case 6:
                return alike("wouldLog(" + p + ", " + c + ")", x.wouldLog(p, c), naive.wouldLog(p, c));
            case 7:
                return alike("bestRenewed()", x.bestRenewed(), naive.bestRenewed());
            default:
                int which = number(0, 14);
                return alike("count(" + which + ")", x.count(which), naive.count(which));
        }
    }

    private boolean orders() {
        boolean alike = random.nextInt(6) == 0 || alike("clearText()", x.clearText(), naive.clearText());
        String text = text();
        for (int i = 0; alike && i < text.length(); i++) {
            char c = text.charAt(i);
            alike = alike("type((char) " + (int) c + ")", x.type(c), naive.type(c));
        }
        return alike && alike("readOrders()", x.readOrders(), naive.readOrders());
    }

    private void faultOfText() {
        String text = text();
        Check.type(x, text);
        String typed = text.substring(0, Math.min(60, text.length()));
        int fault = NaiveLog.fault(typed);
        int got = x.readOrders();
        check.holds("the fault of \"" + typed + "\" is " + fault + ", " + got,
                fault < 0 ? got > -100 : got == -100 - fault);
    }

    /** Good orders; in some texts a sign is left out, put in or replaced, or the end is cut off. */
    private String text() {
        StringBuilder text = new StringBuilder();
        int many = 1 + random.nextInt(5);
        for (int i = 0; i < many; i++) {
            text.append(i == 0 ? "" : ";").append(order());
        }
        int place = random.nextInt(text.length());
        switch (random.nextInt(10)) {
            case 0:
                text.deleteCharAt(place);
                break;
            case 1:
                text.insert(place, SIGNS.charAt(random.nextInt(SIGNS.length())));
                break;
            case 2:
                text.setCharAt(place, SIGNS.charAt(random.nextInt(SIGNS.length())));
                break;
            case 3:
                text.setLength(place + 1);
                break;
            default:
                break;
        }
        return text.toString();
    }

    private String order() {
        int p = random.nextInt(pages);
        int from = random.nextInt(12);
        int to = random.nextInt(12) == 0 ? random.nextInt(12) : from + random.nextInt(12 - from);
        switch (random.nextInt(5)) {
            case 0:
                return p + "f" + from + "-" + to + "=" + random.nextInt(10);
            case 1:
                return p + "a" + from + "-" + to + "+" + (1 + random.nextInt(9));
            case 2:
                return p + "t" + (1 + random.nextInt(11));
            case 3:
                StringBuilder row = new StringBuilder();
                for (int i = 0; i <= random.nextInt(12 - from); i++) {
                    row.append(random.nextInt(10));
                }
                return p + "r" + from + "=" + row;
            default:
                return p + "p";
        }
    }
}
