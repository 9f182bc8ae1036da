import java.util.List;
import java.util.function.Consumer;

/** The sentences of the promise 23 that name a bound, one by one. */
public final class AsOfTest {
    private static final Check check = new Check();

    public static void main(String[] args) {
        entriesHeld();
        upToThisEntry();
        latestPicture();
        allBehindAPicture();
        notOlderThanTheCopy();
        copyOfALaterEntry();
        copyIsNotMadeUseOf();
        droppedEntries();
        droppedEntriesOfOthers();
        droppedForRoom();
        droppedIsPartOfTheState();
        damagedPicture();
        damagedChange();
        damagedButNotMadeUseOf();
        otherPages();
        lostEntries();
        check.end();
    }

    private static PictureLog plain() {
        return Told.made(Made.PLAIN);
    }

    private static void notPossible(String when, PictureLog x, int page, int entry) {
        for (int cell = 0; cell < 12; cell++) {
            check.due(when + ": asOf(" + page + ", " + entry + ", " + cell + ")", x.asOf(page, entry, cell), -4);
        }
    }

    private static void entriesHeld() {
        check.sentence("entry: an entry that the log holds");
        check.due("an empty log", new PictureLog().asOf(0, 0, 0), -1);
        PictureLog x = plain();
        for (int i = 0; i < 4; i++) {
            x.fill(i % 2, 0, 0, i + 1);
        }
        x.flush();
        x.store(0);
        x.trim();
        check.due("the last one dropped", x.asOf(1, 0, 0), -1);
        check.due("the first one held", x.asOf(1, 1, 0), 2);
        check.due("the last one held", x.asOf(1, 3, 0), 4);
        check.due("the next entry", x.asOf(1, 4, 0), -1);
        check.due("no number at all", x.asOf(1, -1, 0), -1);
    }

    private static void upToThisEntry() {
        check.sentence("Tells a cell of a page as it was behind an entry");
        PictureLog x = plain();
        for (int i = 0; i < 6; i++) {
            x.add(0, i, i + 6, 1);
        }
        String[] want = {"111111100000", "122222210000", "123333321000", "123444432100", "123455543210",
            "123456654321"};
        for (int entry = 0; entry < want.length; entry++) {
            check.cellsAsOf(x, 0, entry, want[entry]);
        }
        check.cells("now", x, 0, want[5]);
    }

    private static void latestPicture() {
        check.sentence("by the latest picture of the page that the log holds up to this entry");
        PictureLog x = plain();
        x.fill(0, 0, 0, 1);
        x.flush();
        x.damage(0);
        x.crash();
        x.renew(0);
        x.fill(0, 1, 1, 2);
        x.renew(0);
        notPossible("ahead of the picture", x, 0, 0);
        check.cellsAsOf(x, 0, 1, "000000000000");
        check.cellsAsOf(x, 0, 2, "020000000000");
        x.damage(2);
        notPossible("ahead of the later picture", x, 0, 2);
        check.cellsAsOf(x, 0, 3, "020000000000");
    }

    private static void allBehindAPicture() {
        check.sentence("(behind a picture all of them; behind the copy those that are not older than it)");
        PictureLog x = plain();
        x.renew(0);
        x.add(0, 0, 0, 1);
        x.add(0, 0, 0, 2);
        x.flush();
        x.store(0);
        x.add(0, 0, 0, 4);
        check.due("the copy is as of", x.page(0, 3), 3);
        check.due("the picture", x.asOf(0, 0, 0), 0);
        check.due("a change that is older than the copy", x.asOf(0, 1, 0), 1);
        check.due("another one", x.asOf(0, 2, 0), 3);
        check.due("all", x.asOf(0, 3, 0), 7);
    }

    private static void notOlderThanTheCopy() {
        check.sentence("behind the copy those that are not older than it");
        PictureLog x = plain();
        x.add(0, 0, 0, 1);
        x.add(0, 0, 0, 2);
        x.flush();
        x.store(0);
        x.add(0, 0, 0, 4);
        x.add(0, 0, 0, 1);
        check.due("one less than the copy's number", x.asOf(0, 1, 0), 3);
        check.due("the copy's number", x.asOf(0, 2, 0), 7);
        check.due("one more", x.asOf(0, 3, 0), 8);
    }

    private static void copyOfALaterEntry() {
        check.sentence("NOT_POSSIBLE if the copy is to be made use of, and it is as of a later entry than the one behind "
                + "this entry");
        PictureLog x = plain();
        x.add(0, 0, 0, 1);
        x.add(1, 0, 0, 1);
        x.add(0, 0, 0, 1);
        x.flush();
        check.due("the copy is as of 0", x.asOf(0, 0, 0), 1);
        x.store(0);
        check.due("the copy is as of", x.page(0, 3), 3);
        notPossible("two less", x, 0, 0);
        notPossible("two less, of another page", x, 0, 1);
        check.due("the one ahead of it", x.asOf(0, 2, 0), 2);
        x.turn(2, 1);
        check.due("that one", x.asOf(0, 3, 0), 2);
        notPossible("still", x, 0, 1);
        check.due("another page", x.asOf(1, 1, 0), 1);
    }

    private static void copyIsNotMadeUseOf() {
        check.sentence("NOT_POSSIBLE if the copy is to be made use of");
        PictureLog x = plain();
        x.add(0, 0, 0, 1);
        x.renew(0);
        x.turn(1, 1);
        x.add(0, 0, 0, 1);
        x.flush();
        x.store(0);
        notPossible("without a picture", x, 0, 0);
        check.due("at the picture", x.asOf(0, 1, 0), 1);
        check.due("behind it", x.asOf(0, 2, 0), 1);
        check.due("behind it", x.asOf(0, 3, 0), 2);
    }

    private static void droppedEntries() {
        check.sentence("or an entry of the page that is not older than the copy was dropped");
        PictureLog x = plain();
        x.add(0, 0, 0, 1);
        x.add(1, 0, 0, 1);
        x.renew(0);
        x.flush();
        check.due("ahead of that", x.asOf(0, 1, 0), 1);
        check.due("trim()", x.trim(), 1);
        notPossible("the entry with the copy's number was dropped", x, 0, 1);
        check.due("by the picture", x.asOf(0, 2, 0), 1);
        check.due("another page", x.asOf(1, 1, 0), 1);
        check.due("another page behind that", x.asOf(1, 2, 0), 1);
        x.undo();
        check.due("undone", x.asOf(0, 1, 0), 1);
        PictureLog y = plain();
        y.add(0, 0, 0, 1);
        y.flush();
        y.store(0);
        y.trim();
        y.add(1, 0, 0, 1);
        check.due("the entry ahead of the copy's number was dropped", y.asOf(0, 1, 0), 1);
        y.add(0, 0, 0, 2);
        y.add(1, 0, 0, 3);
        y.renew(0);
        y.flush();
        check.due("one that is not older is held", y.asOf(0, 3, 0), 3);
        y.store(1);
        check.due("trim()", y.trim(), 3);
        check.due("by the picture", y.asOf(0, 4, 0), 3);
        y.store(0);
        check.due("trim()", y.trim(), 1);
        y.add(1, 0, 0, 1);
        check.due("all dropped ones are older than the new copy", y.asOf(0, 5, 0), 3);
        check.due("and of the other page", y.asOf(1, 5, 0), 5);
    }

    private static void droppedEntriesOfOthers() {
        check.sentence("or an entry of the page that is not older than the copy was dropped");
        PictureLog x = plain();
        x.turn(0, 1);
        x.turn(1, 1);
        x.fill(2, 0, 0, 7);
        x.renew(0);
        x.renew(1);
        x.flush();
        check.due("trim()", x.trim(), 2);
        notPossible("page 0", x, 0, 2);
        notPossible("page 1", x, 1, 2);
        notPossible("page 1, up to another picture", x, 1, 3);
        check.due("page 2", x.asOf(2, 2, 0), 7);
        check.due("page 3", x.asOf(3, 2, 0), 0);
        check.due("page 0, by the picture", x.asOf(0, 3, 0), 0);
    }

    private static void droppedForRoom() {
        check.sentence("or an entry of the page that is not older than the copy was dropped");
        Consumer<PictureLog> made = x -> {
            x.setWay(0);
            x.setRoom(30);
            x.fill(0, 0, 0, 1);
            x.fill(1, 0, 0, 2);
            x.renew(0);
            x.flush();
            for (int i = 0; i < 4; i++) {
                x.turn(2, 1);
            }
        };
        PictureLog x = Told.made(made);
        check.due("sizes together", x.count(2), 26);
        check.due("all are held", x.asOf(0, 1, 0), 1);
        x.turn(2, 1);
        check.due("the room holds it", x.asOf(0, 1, 0), 1);
        x.turn(2, 1);
        notPossible("dropped for room", x, 0, 1);
        check.due("room", Told.made(made.andThen(y -> y.setRoom(31))).count(3), 31);
        PictureLog z = Told.made(made.andThen(y -> y.setRoom(34)).andThen(y -> y.turn(2, 1)).andThen(y -> y.turn(2, 1)));
        check.due("all are held", z.asOf(0, 1, 0), 1);
        check.due("setRoom(31)", z.setRoom(31), 34);
        notPossible("dropped by setRoom", z, 0, 1);
    }

    private static void droppedIsPartOfTheState() {
        check.sentence("A state is everything but the text, the history and the snapshot.");
        PictureLog x = plain();
        x.add(0, 0, 0, 1);
        x.add(1, 0, 0, 1);
        x.renew(0);
        x.flush();
        x.keep();
        check.due("trim()", x.trim(), 1);
        notPossible("dropped", x, 0, 1);
        check.due("a refused call", x.setWay(0), -5);
        notPossible("behind a refused call", x, 0, 1);
        check.due("another refused call", x.trim(), -5);
        notPossible("behind another refused call", x, 0, 1);
        x.turn(2, 1);
        x.undo();
        notPossible("an act is undone", x, 0, 1);
        x.restore();
        check.due("the snapshot has it still", x.asOf(0, 1, 0), 1);
        x.undo();
        notPossible("that is undone", x, 0, 1);
        x.keep();
        x.undo();
        check.due("the trim is undone", x.asOf(0, 1, 0), 1);
        x.restore();
        notPossible("the later snapshot has it not", x, 0, 1);
    }

    private static void damagedPicture() {
        check.sentence("or if an entry that is made use of is damaged");
        PictureLog x = plain();
        x.fill(0, 0, 0, 1);
        x.renew(0);
        x.fill(0, 1, 1, 2);
        x.flush();
        x.damage(1);
        check.cellsAsOf(x, 0, 0, "100000000000");
        notPossible("the picture", x, 0, 1);
        notPossible("behind the picture", x, 0, 2);
        x.renew(0);
        check.cellsAsOf(x, 0, 3, "120000000000");
        notPossible("behind the damaged picture still", x, 0, 2);
    }

    private static void damagedChange() {
        check.sentence("or if an entry that is made use of is damaged");
        for (int damaged = 0; damaged < 4; damaged++) {
            PictureLog x = plain();
            for (int i = 0; i < 4; i++) {
                x.fill(0, i, i, 1);
            }
            x.damage(damaged);
            for (int entry = 0; entry < 4; entry++) {
                if (entry < damaged) {
                    check.cellsAsOf(x, 0, entry, "111100000000".substring(0, entry + 1)
                            + "00000000000".substring(entry));
                } else {
                    notPossible("damaged " + damaged, x, 0, entry);
                }
            }
        }
    }

    private static void damagedButNotMadeUseOf() {
        check.sentence("or if an entry that is made use of is damaged");
        PictureLog x = plain();
        x.fill(0, 0, 0, 1);
        x.renew(0);
        x.fill(1, 1, 1, 2);
        x.fill(0, 2, 2, 3);
        x.flush();
        x.damage(0);
        x.damage(2);
        x.damage(3);
        notPossible("the entry itself", x, 0, 0);
        check.due("ahead of the picture", x.asOf(0, 1, 0), 1);
        check.due("of another page", x.asOf(0, 2, 0), 1);
        notPossible("the page's own", x, 0, 3);
        PictureLog y = plain();
        y.fill(0, 0, 0, 1);
        y.fill(0, 0, 0, 2);
        y.flush();
        y.store(0);
        y.damage(0);
        y.damage(1);
        y.fill(0, 1, 1, 3);
        check.due("older than the copy", y.asOf(0, 1, 0), 2);
        check.due("older than the copy", y.asOf(0, 2, 1), 3);
        y.damage(2);
        check.due("behind this entry", y.asOf(0, 1, 0), 2);
        notPossible("with the copy's number", y, 0, 2);
    }

    private static void otherPages() {
        check.sentence("entry: an entry that the log holds");
        PictureLog x = plain();
        x.fill(3, 0, 0, 1);
        x.fill(4, 0, 0, 2);
        x.fill(3, 0, 0, 5);
        for (int page : List.of(0, 1, 2, 5)) {
            check.cellsAsOf(x, page, 0, "000000000000");
            check.cellsAsOf(x, page, 2, "000000000000");
        }
        x.renew(2);
        x.renew(5);
        check.due("behind pictures of other pages", x.asOf(3, 4, 0), 5);
        check.due("behind pictures of other pages", x.asOf(4, 4, 0), 2);
        check.due("a picture of a page without entries", x.asOf(5, 4, 0), 0);
        check.due("behind another page's entry", x.asOf(3, 1, 0), 1);
        check.due("ahead of its first one", x.asOf(4, 0, 0), 0);
        check.due("behind its last one", x.asOf(4, 2, 0), 2);
    }

    private static void lostEntries() {
        check.sentence("(the number of a lost entry is given again)");
        PictureLog x = plain();
        x.fill(0, 0, 0, 1);
        x.flush();
        x.fill(0, 0, 0, 2);
        x.damage(1);
        x.crash();
        check.due("lost", x.asOf(0, 1, 0), -1);
        x.fill(0, 0, 0, 3);
        check.due("given again", x.asOf(0, 1, 0), 3);
        check.due("ahead of it", x.asOf(0, 0, 0), 1);
    }
}
