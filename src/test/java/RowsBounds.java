/** Section 1 as far as it speaks of rows, and promises 2 to 5. */
final class RowsBounds {
    private static final int MIN = Sentences.MIN, MAX = Sentences.MAX;

    private final Sentences s;

    RowsBounds(Sentences s) {
        this.s = s;
    }

    void all() {
        s.under("Section 1");
        eightRows();
        missingAtFirst();
        lanes();
        items();
        zeroAtFirst();
        s.promise(2);
        rowIsLaid();
        rowIsRefused();
        s.promise(3);
        itemIsSet();
        setIsRefused();
        s.promise(4);
        itemsAreCopied();
        copyIsRefused();
        copyBeyondAnEnd();
        s.promise(5);
        rowIsDropped();
    }

    /** An object whose whereIs tells items: of seven joints that are made the elder finds every fault. */
    static GuildPiece teller() {
        GuildPiece x = new GuildPiece();
        makeTeller(x);
        return x;
    }

    static void makeTeller(GuildPiece x) {
        Check.tell(x, "g0,60,0;" + "j0,1,7;".repeat(7) + "e0,7,1;");
        for (int p = 0; p < 7; p++) {
            x.make(p);
        }
    }

    /** What an item is, 0 to 7, by a teller; NONE if it is something else. */
    static int item(GuildPiece teller, int row, int i) {
        int least = teller.whereIs(row, i, 1);
        return least < 0 ? least : Integer.bitCount(least);
    }

    private void itemsAre(String what, GuildPiece teller, int row, int... want) {
        for (int i = 0; i < want.length; i++) {
            s.due(what + ", item " + i, item(teller, row, i), want[i]);
        }
        s.due(what + ", behind its end", item(teller, row, want.length), Check.PLACE);
    }

    private void eightRows() {
        s.says("ROWS 0 .. 7");
        GuildPiece x = new GuildPiece();
        for (int row = 0; row < 8; row++) {
            s.due("row(" + row + ", 0, 1)", x.row(row, 0, 1), 1);
            s.due("count(0)", x.count(0), row + 1);
        }
        for (int row : new int[] {MIN, -1, 8, MAX}) {
            s.due("row(" + row + ", 0, 1)", x.row(row, 0, 1), Check.BAD);
        }
        s.due("count(0) of eight", x.count(0), 8);
    }

    private void missingAtFirst() {
        s.says("are missing (at first)");
        GuildPiece x = new GuildPiece();
        s.due("count(0)", x.count(0), 0);
        for (int row = 0; row < 8; row++) {
            s.due("set(" + row + ", 0, 1)", x.set(row, 0, 1), Check.NULL);
            s.due("drop(" + row + ")", x.drop(row), Check.NULL);
        }
        s.due("count(0) yet", x.count(0), 0);
    }

    private void lanes() {
        s.says("or have a LANE (0 bytes, 1 shorts, 2 ints)");
        int[] values = {127, 128, 255, 256, -128, -129, 32767, 32768, 65535, 65536, -32768, -32769, MAX, MIN};
        GuildPiece x = new GuildPiece();
        x.row(0, 0, 1);
        x.row(1, 1, 1);
        x.row(2, 2, 1);
        for (int v : values) {
            s.due("a byte, set to " + v, x.set(0, 0, v), (byte) v);
            s.due("a short, set to " + v, x.set(1, 0, v), (short) v);
            s.due("an int, set to " + v, x.set(2, 0, v), v);
        }
        for (int lane : new int[] {MIN, -1, 3, MAX}) {
            s.due("row(3, " + lane + ", 1)", x.row(3, lane, 1), Check.BAD);
        }
    }

    private void items() {
        s.says("and 0 to 40 ITEMS");
        GuildPiece x = new GuildPiece();
        for (int lane = 0; lane < 3; lane++) {
            s.due("row of none", x.row(0, lane, 0), 0);
            s.due("it is there", x.count(0), 1);
            s.due("set in a row of none", x.set(0, 0, 5), Check.PLACE);
            s.due("row of one", x.row(0, lane, 1), 1);
            s.due("its one item", x.set(0, 0, 5), 5);
            s.due("no second", x.set(0, 1, 5), Check.PLACE);
            s.due("row of 40", x.row(0, lane, 40), 40);
            s.due("its last item", x.set(0, 39, 5), 5);
            s.due("none behind it", x.set(0, 40, 5), Check.PLACE);
            s.due("row of 41", x.row(0, lane, 41), Check.BAD);
            s.due("row of one fewer than none", x.row(0, lane, -1), Check.SIZE);
        }
    }

    private void zeroAtFirst() {
        s.says("ITEMS, 0 at first.");
        GuildPiece x = teller();
        x.row(0, 2, 40);
        for (int i = 0; i < 40; i++) {
            s.due("item " + i, item(x, 0, i), 0);
            x.set(0, i, 5);
        }
        x.row(0, 2, 40);
        for (int i = 0; i < 40; i++) {
            s.due("item " + i + " of a row in place of another", item(x, 0, i), 0);
            x.set(0, i, 6);
        }
        x.drop(0);
        x.row(0, 0, 40);
        for (int i = 0; i < 40; i++) {
            s.due("item " + i + " of a row that was missing", item(x, 0, i), 0);
        }
    }

    private void rowIsLaid() {
        s.says("A ROW of a LANE with n ITEMS");
        GuildPiece x = new GuildPiece();
        x.row(4, 1, 7);
        s.due("the lane is shorts", x.set(4, 6, 40000), 40000 - 65536);
        s.due("with 7 items", x.drop(4), 7);
        s.says("in place of what is there: n.");
        GuildPiece y = teller();
        y.row(3, 0, 3);
        y.set(3, 0, 4);
        y.row(2, 0, 1);
        y.set(2, 0, 7);
        s.due("row(3, 2, 4)", y.row(3, 2, 4), 4);
        itemsAre("the new row", y, 3, 0, 0, 0, 0);
        s.due("its lane is the new one", y.set(3, 0, 40000), 40000);
        s.due("it is one row", y.count(0), 2);
        itemsAre("the row beside", y, 2, 7);
        s.due("fewer than there are", y.row(3, 2, 0), 0);
        s.due("none is left of them", y.drop(3), 0);
    }

    private void rowIsRefused() {
        s.says("BAD: ROW,");
        GuildPiece x = new GuildPiece();
        for (int row : new int[] {MIN, -1, 8, MAX}) {
            s.due("row(" + row + ", 0, 0)", x.row(row, 0, 0), Check.BAD);
            s.due("BAD is ahead of SIZE", x.row(row, 0, -1), Check.BAD);
        }
        s.says("ROW, LANE,");
        for (int lane : new int[] {MIN, -1, 3, MAX}) {
            s.due("row(0, " + lane + ", 0)", x.row(0, lane, 0), Check.BAD);
            s.due("BAD is ahead of SIZE", x.row(0, lane, -1), Check.BAD);
        }
        s.says("n above 40;");
        s.due("row(0, 0, 41)", x.row(0, 0, 41), Check.BAD);
        s.due("row(0, 0, MAX)", x.row(0, 0, MAX), Check.BAD);
        s.due("BAD leaves status", x.status(), 0);
        s.says("; SIZE.");
        s.due("row(0, 0, -1)", x.row(0, 0, -1), Check.SIZE);
        s.due("status", x.status(), 4);
        s.due("row(0, 0, MIN)", x.row(0, 0, MIN), Check.SIZE);
        s.due("no row is there", x.count(0), 0);
        s.due("row(0, 0, 0)", x.row(0, 0, 0), 0);
        s.due("status of none", x.status(), 0);
    }

    private void itemIsSet() {
        s.says("ITEM i becomes v");
        GuildPiece x = teller();
        x.row(5, 2, 40);
        s.due("the first", x.set(5, 0, 3), 3);
        s.due("the last", x.set(5, 39, 4), 4);
        s.due("the first is so", item(x, 5, 0), 3);
        s.due("the one beside is not", item(x, 5, 1), 0);
        s.due("the last but one is not", item(x, 5, 38), 0);
        s.due("the last is so", item(x, 5, 39), 4);
        s.says("its lowest bits, as many as the LANE has");
        for (int lane = 0; lane < 3; lane++) {
            int wrap = lane == 0 ? 256 : 65536;
            x.row(5, lane, 1);
            s.due("lane " + lane + ", wrapped", x.set(5, 0, wrap + 2), lane == 2 ? wrap + 2 : 2);
            s.due("lane " + lane + ", as it is kept", item(x, 5, 0), lane == 2 ? Check.NONE : 2);
            s.due("lane " + lane + ", the greatest", x.set(5, 0, MAX), lane == 2 ? MAX : -1);
            s.due("lane " + lane + ", the least", x.set(5, 0, MIN), lane == 2 ? MIN : 0);
        }
        s.says("what it is then.");
        x.row(5, 0, 1);
        s.due("the greatest byte", x.set(5, 0, 127), 127);
        s.due("one beyond", x.set(5, 0, 128), -128);
        s.due("the least byte", x.set(5, 0, -128), -128);
        s.due("one beyond", x.set(5, 0, -129), 127);
        x.row(5, 1, 1);
        s.due("the greatest short", x.set(5, 0, 32767), 32767);
        s.due("one beyond", x.set(5, 0, 32768), -32768);
        s.due("the least short", x.set(5, 0, -32768), -32768);
        s.due("one beyond", x.set(5, 0, -32769), 32767);
    }

    private void setIsRefused() {
        GuildPiece x = new GuildPiece();
        s.says("BAD: ROW;");
        for (int row : new int[] {MIN, -1, 8, MAX}) {
            s.due("set(" + row + ", 0, 1)", x.set(row, 0, 1), Check.BAD);
        }
        s.says("NULL;");
        s.due("set(7, 0, 1)", x.set(7, 0, 1), Check.NULL);
        s.due("status", x.status(), 1);
        s.due("NULL is ahead of PLACE", x.set(7, -1, 1), Check.NULL);
        x.row(7, 0, 2);
        x.drop(7);
        s.due("a row that was dropped", x.set(7, 0, 1), Check.NULL);
        s.says("PLACE.");
        x.row(7, 0, 2);
        for (int i : new int[] {MIN, -1, 2, 3, 40, MAX}) {
            s.due("set(7, " + i + ", 1)", x.set(7, i, 1), Check.PLACE);
            s.due("status", x.status(), 2);
        }
        s.due("the last place", x.set(7, 1, 1), 1);
        s.due("status of none", x.status(), 0);
    }

    private static void lay(GuildPiece x, int row, int... items) {
        Check.lay(x, row, items);
    }

    private void itemsAreCopied() {
        s.says("n ITEMS of a from i on come to b from j on");
        GuildPiece x = teller();
        lay(x, 0, 1, 2, 3, 4, 5);
        lay(x, 1, 0, 0, 0, 0);
        s.due("two from 3 on to 1 on", x.copy(0, 3, 1, 1, 2), 2);
        itemsAre("b", x, 1, 0, 4, 5, 0);
        itemsAre("a", x, 0, 1, 2, 3, 4, 5);
        s.due("all of b", x.copy(1, 0, 0, 0, 4), 4);
        itemsAre("a then", x, 0, 0, 4, 5, 0, 5);
        for (int lane = 0; lane < 2; lane++) {
            x.row(2, lane, 2);
            x.row(3, lane, 1);
            x.set(2, 1, 6);
            s.due("lane " + lane, x.copy(2, 1, 3, 0, 1), 1);
            itemsAre("of lane " + lane, x, 3, 6);
        }
        s.says("as they were ahead");
        lay(x, 0, 1, 2, 3, 4, 5);
        s.due("forth in one row", x.copy(0, 0, 0, 1, 4), 4);
        itemsAre("forth", x, 0, 1, 1, 2, 3, 4);
        lay(x, 0, 1, 2, 3, 4, 5);
        s.due("back in one row", x.copy(0, 1, 0, 0, 4), 4);
        itemsAre("back", x, 0, 2, 3, 4, 5, 5);
        s.due("onto itself", x.copy(0, 0, 0, 0, 5), 5);
        itemsAre("onto itself", x, 0, 2, 3, 4, 5, 5);
        s.says(": n.");
        x.row(4, 1, 40);
        x.row(5, 1, 40);
        s.due("40 of them", x.copy(4, 0, 5, 0, 40), 40);
        s.due("one", x.copy(4, 39, 5, 0, 1), 1);
        s.due("none of them", x.copy(4, 0, 5, 0, 0), 0);
        s.due("none, at the ends", x.copy(4, 40, 5, 40, 0), 0);
    }

    private void copyIsRefused() {
        GuildPiece x = new GuildPiece();
        x.row(0, 2, 5);
        x.row(1, 1, 5);
        s.says("BAD: ROWS;");
        for (int row : new int[] {MIN, -1, 8, MAX}) {
            s.due("from " + row, x.copy(row, 0, 0, 0, 1), Check.BAD);
            s.due("to " + row, x.copy(0, 0, row, 0, 1), Check.BAD);
            s.due("BAD is ahead of NULL", x.copy(5, -1, row, 0, 1), Check.BAD);
        }
        s.says("NULL;");
        s.due("from a missing one", x.copy(5, 0, 0, 0, 1), Check.NULL);
        s.due("to a missing one", x.copy(0, 0, 5, 0, 1), Check.NULL);
        s.due("none of a missing one", x.copy(5, 0, 5, 0, 0), Check.NULL);
        s.due("NULL is ahead of PLACE", x.copy(0, -1, 5, 0, -1), Check.NULL);
        s.due("status", x.status(), 1);
        s.says("STORE;");
        for (int a = 0; a < 3; a++) {
            for (int b = 0; b < 3; b++) {
                x.row(6, a, 1);
                x.row(7, b, 1);
                s.due("lane " + a + " to " + b, x.copy(6, 0, 7, 0, 1), a == b ? 1 : Check.STORE);
                s.due("status", x.status(), a == b ? 0 : 5);
            }
        }
        s.due("none of two lanes", x.copy(0, 0, 1, 0, 0), Check.STORE);
        s.due("STORE is ahead of PLACE", x.copy(0, -1, 1, 9, -1), Check.STORE);
    }

    private void copyBeyondAnEnd() {
        GuildPiece x = new GuildPiece();
        x.row(0, 2, 5);
        x.row(1, 2, 3);
        s.says("PLACE (i, j, n below 0,");
        for (int below : new int[] {-1, MIN}) {
            s.due("i is " + below, x.copy(0, below, 1, 0, 1), Check.PLACE);
            s.due("i is " + below + ", none of them", x.copy(0, below, 1, 0, 0), Check.PLACE);
            s.due("j is " + below, x.copy(0, 0, 1, below, 1), Check.PLACE);
            s.due("j is " + below + ", none of them", x.copy(0, 0, 1, below, 0), Check.PLACE);
            s.due("n is " + below, x.copy(0, 0, 1, 0, below), Check.PLACE);
            s.due("n is " + below + ", at other places", x.copy(0, 2, 1, 2, below), Check.PLACE);
        }
        s.due("status", x.status(), 2);
        s.says("or beyond an end).");
        s.due("up to the end of a", x.copy(0, 3, 1, 0, 2), 2);
        s.due("one beyond the end of a", x.copy(0, 4, 1, 0, 2), Check.PLACE);
        s.due("up to the end of b", x.copy(0, 0, 1, 1, 2), 2);
        s.due("one beyond the end of b", x.copy(0, 0, 1, 2, 2), Check.PLACE);
        s.due("none, one beyond a", x.copy(0, 6, 1, 0, 0), Check.PLACE);
        s.due("none, one beyond b", x.copy(0, 0, 1, 4, 0), Check.PLACE);
        s.due("i and n that wrap around", x.copy(0, MAX, 1, 0, 1), Check.PLACE);
        s.due("j and n that wrap around", x.copy(0, 0, 1, MAX, 1), Check.PLACE);
        s.due("n and i that wrap around", x.copy(0, 1, 1, 0, MAX), Check.PLACE);
        s.due("n and j that wrap around", x.copy(0, 0, 1, 1, MAX), Check.PLACE);
    }

    private void rowIsDropped() {
        s.says("A ROW is missing from now on");
        GuildPiece x = new GuildPiece();
        x.row(0, 0, 3);
        x.row(7, 0, 0);
        x.drop(0);
        s.due("it is missing", x.set(0, 0, 1), Check.NULL);
        s.due("the other is not", x.count(0), 1);
        s.says("how many ITEMS it had.");
        s.due("none", x.drop(7), 0);
        x.row(7, 2, 40);
        s.due("40", x.drop(7), 40);
        s.due("status of none", x.status(), 0);
        s.says("BAD;");
        for (int row : new int[] {MIN, -1, 8, MAX}) {
            s.due("drop(" + row + ")", x.drop(row), Check.BAD);
        }
        s.says("NULL.");
        s.due("drop(7) again", x.drop(7), Check.NULL);
        s.due("status", x.status(), 1);
    }
}
