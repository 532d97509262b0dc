/** Promises 2 to 5 (row, set, copy, drop) and what of 36 (status) belongs to them. */
public final class RowsTest {
    private static final Check c = new Check("rows");

    public static void main(String[] args) {
        rowsAreLaid();
        itemsAreSet();
        itemsAreCopied();
        rowsAreDropped();
        statusTellsTheLatestFinding();
        c.end();
    }

    private static void rowsAreLaid() {
        GuildPiece x = new GuildPiece();
        c.due("row(-1, 0, 1)", x.row(-1, 0, 1), Check.BAD);
        c.due("row(8, 0, 1)", x.row(8, 0, 1), Check.BAD);
        c.due("row(0, -1, 1)", x.row(0, -1, 1), Check.BAD);
        c.due("row(0, 3, 1)", x.row(0, 3, 1), Check.BAD);
        c.due("row(0, 0, 41)", x.row(0, 0, 41), Check.BAD);
        c.due("row(0, 0, MAX)", x.row(0, 0, Integer.MAX_VALUE), Check.BAD);
        c.due("row(0, 0, -1)", x.row(0, 0, -1), Check.SIZE);
        c.due("row(0, 0, MIN)", x.row(0, 0, Integer.MIN_VALUE), Check.SIZE);
        c.due("BAD is ahead of SIZE", x.row(0, 3, -1), Check.BAD);
        c.due("none is there yet", x.count(0), 0);
        c.due("row(0, 0, 0)", x.row(0, 0, 0), 0);
        c.due("row(7, 2, 40)", x.row(7, 2, 40), 40);
        c.due("two are there", x.count(0), 2);
        x.set(7, 39, 5);
        c.due("in place of what is there", x.row(7, 1, 40), 40);
        Check.lay(x, 1, 9);
        c.due("items are 0 at first", x.copy(7, 39, 7, 0, 1), 1);
        x.row(1, 1, 1);
        x.set(1, 0, 77);
        c.due("a found row keeps what was there", x.row(1, 0, -5), Check.SIZE);
        c.due("its lane too", x.set(1, 0, 300), 300);
    }

    private static void itemsAreSet() {
        GuildPiece x = new GuildPiece();
        x.row(0, 0, 3);
        x.row(1, 1, 3);
        x.row(2, 2, 3);
        c.due("set of a byte, 127", x.set(0, 0, 127), 127);
        c.due("set of a byte, 128", x.set(0, 0, 128), -128);
        c.due("set of a byte, 256", x.set(0, 0, 256), 0);
        c.due("set of a byte, -129", x.set(0, 0, -129), 127);
        c.due("set of a short, 32768", x.set(1, 2, 32768), -32768);
        c.due("set of a short, 65537", x.set(1, 2, 65537), 1);
        c.due("set of an int, MIN", x.set(2, 1, Integer.MIN_VALUE), Integer.MIN_VALUE);
        c.due("set(8, 0, 0)", x.set(8, 0, 0), Check.BAD);
        c.due("set(-1, 0, 0)", x.set(-1, 0, 0), Check.BAD);
        c.due("set(3, 0, 0)", x.set(3, 0, 0), Check.NULL);
        c.due("NULL is ahead of PLACE", x.set(3, -1, 0), Check.NULL);
        c.due("set(0, 3, 0)", x.set(0, 3, 0), Check.PLACE);
        c.due("set(0, -1, 0)", x.set(0, -1, 0), Check.PLACE);
        c.due("set(0, MAX, 0)", x.set(0, Integer.MAX_VALUE, 0), Check.PLACE);
        c.due("set(0, MIN, 0)", x.set(0, Integer.MIN_VALUE, 0), Check.PLACE);
        x.row(4, 0, 0);
        c.due("no place in a row of none", x.set(4, 0, 0), Check.PLACE);
    }

    /** Items can be seen by whereIs of one elder who finds all: he finds k of k made joints. */
    private static boolean isItem(GuildPiece x, int row, int i, int value) {
        return x.whereIs(row, i, 1) == (1 << value) - 1;
    }

    private static void itemsAreCopied() {
        GuildPiece x = Check.told("g20,60,0;j0,1,7;j0,1,7;j0,1,7;j0,1,7;j0,1,7;e0,0,1;");
        for (int p = 0; p < 5; p++) {
            x.make(p);
        }
        Check.lay(x, 0, 1, 2, 3, 4, 5);
        c.due("copy forth within a row", x.copy(0, 0, 0, 1, 4), 4);
        int[] forth = {1, 1, 2, 3, 4};
        for (int i = 0; i < 5; i++) {
            c.holds("forth, item " + i, isItem(x, 0, i, forth[i]));
        }
        Check.lay(x, 0, 1, 2, 3, 4, 5);
        c.due("copy back within a row", x.copy(0, 1, 0, 0, 4), 4);
        int[] back = {2, 3, 4, 5, 5};
        for (int i = 0; i < 5; i++) {
            c.holds("back, item " + i, isItem(x, 0, i, back[i]));
        }
        Check.lay(x, 1, 0, 0);
        c.due("copy to another row", x.copy(0, 3, 1, 0, 2), 2);
        c.holds("another row, item 0", isItem(x, 1, 0, 5));
        c.holds("another row, item 1", isItem(x, 1, 1, 5));
        x.row(0, 2, 5);
        for (int i = 0; i < 5; i++) {
            c.holds("a new row, item " + i, isItem(x, 0, i, 0));
        }
        copiesAreRefused();
    }

    private static void copiesAreRefused() {
        GuildPiece x = new GuildPiece();
        x.row(0, 2, 5);
        x.row(1, 2, 2);
        x.row(2, 0, 2);
        c.due("copy(8, ..)", x.copy(8, 0, 0, 0, 0), Check.BAD);
        c.due("copy(.., -1, ..)", x.copy(0, 0, -1, 0, 0), Check.BAD);
        c.due("a missing first row", x.copy(3, 0, 0, 0, 0), Check.NULL);
        c.due("a missing second row", x.copy(0, 0, 3, 0, 0), Check.NULL);
        c.due("NULL is ahead of PLACE", x.copy(0, -1, 3, 0, 0), Check.NULL);
        c.due("two lanes", x.copy(0, 0, 2, 0, 1), Check.STORE);
        c.due("STORE is ahead of PLACE", x.copy(0, -1, 2, 0, 1), Check.STORE);
        c.due("i below 0", x.copy(0, -1, 1, 0, 1), Check.PLACE);
        c.due("j below 0", x.copy(0, 0, 1, -1, 1), Check.PLACE);
        c.due("n below 0", x.copy(0, 0, 1, 0, -1), Check.PLACE);
        c.due("beyond the end of a", x.copy(1, 1, 0, 0, 2), Check.PLACE);
        c.due("beyond the end of b", x.copy(0, 0, 1, 0, 3), Check.PLACE);
        c.due("a sum that wraps", x.copy(0, Integer.MAX_VALUE, 1, 0, 1), Check.PLACE);
        c.due("two sums that wrap", x.copy(0, 1, 1, 1, Integer.MAX_VALUE), Check.PLACE);
        c.due("none, at both ends", x.copy(0, 5, 1, 2, 0), 0);
        c.due("none, beyond an end", x.copy(0, 6, 1, 0, 0), Check.PLACE);
    }

    private static void rowsAreDropped() {
        GuildPiece x = new GuildPiece();
        c.due("drop(-1)", x.drop(-1), Check.BAD);
        c.due("drop(8)", x.drop(8), Check.BAD);
        c.due("drop of a missing row", x.drop(0), Check.NULL);
        x.row(0, 1, 17);
        c.due("drop of 17 items", x.drop(0), 17);
        c.due("none is there", x.count(0), 0);
        c.due("drop again", x.drop(0), Check.NULL);
        c.due("set in a dropped row", x.set(0, 0, 1), Check.NULL);
    }

    private static void statusTellsTheLatestFinding() {
        GuildPiece x = new GuildPiece();
        c.due("status at first", x.status(), 0);
        x.drop(0);
        c.due("status behind NULL", x.status(), 1);
        x.row(0, 0, 50);
        c.due("BAD leaves it", x.status(), 1);
        x.whereIs(0, 0, 0);
        c.due("STATE leaves it", x.status(), 1);
        x.count(0);
        x.feed('g');
        c.due("a call without a row leaves it", x.status(), 1);
        x.row(0, 0, 1);
        c.due("status behind none", x.status(), 0);
        x.set(0, 1, 0);
        c.due("status behind PLACE", x.status(), 2);
        x.set(0, 0, 0);
        c.due("status behind a set", x.status(), 0);
        x.row(1, 0, -1);
        c.due("status behind SIZE", x.status(), 4);
        x.row(1, 1, 1);
        x.copy(0, 0, 1, 0, 1);
        c.due("status behind STORE", x.status(), 5);
        x.copy(0, 0, 0, 0, 1);
        c.due("status behind a copy", x.status(), 0);
        x.copy(0, 0, 1, 0, 1);
        x.drop(1);
        c.due("status behind a drop", x.status(), 0);
    }
}
