/** Section 4, and promises 31 to 36: kinds, asks and their trace, counts, status. */
final class AskedBounds {
    private static final int MIN = Sentences.MIN, MAX = Sentences.MAX;
    /** A joint, a carved one, a hidden one, one of wax, one that is bought, by their numbers. */
    private static final String FIVE = "g0,9,0;j3,4,7;c5,6,7;h7,8,7;w9,10,7;b11,12,7;";
    private static final int JOINT = 0, CARVED = 1, HIDDEN = 2, WAX = 3, BOUGHT = 4;

    private final Sentences s;

    AskedBounds(Sentences s) {
        this.s = s;
    }

    void all() {
        s.under("Section 4");
        asks();
        sizes();
        marks();
        whichBody();
        s.promise(31);
        kind();
        s.promise(32);
        as();
        s.promise(33);
        ask();
        s.promise(34);
        trace();
        s.promise(35);
        count();
        s.promise(36);
        status();
        statusOfWhom();
    }

    private void asked(int part, int what, int answer, int... trace) {
        GuildPiece x = Check.told(FIVE);
        s.due("ask(" + part + ", " + what + ")", x.ask(part, what), answer);
        for (int i = 0; i < trace.length; i++) {
            s.due("ask(" + part + ", " + what + "), trace " + i, x.trace(i), trace[i]);
        }
        s.due("ask(" + part + ", " + what + "), behind its trace", x.trace(trace.length), Check.NONE);
    }

    private void asks() {
        s.says("ASKS of PARTS, by BODIES, each of which leaves its number in THE TRACE as it begins");
        asked(CARVED, 0, -(6 + 2 * (1 + 5)), 12, 11, 10, 24, 21, 20);
        s.says("(the first 16):");
        GuildPiece x = Check.told(FIVE);
        x.ask(CARVED, 0);
        for (int i = 6; i < 20; i++) {
            s.due("the longest has six, number " + i, x.trace(i), Check.NONE);
        }
    }

    private void sizes() {
        s.says("0 SIZE: 10 lent to all PARTS: TIME.");
        asked(WAX, 0, 10 - 100, 13, 10);
        s.says("11 of JOINTS: what 10 gives, and MARK.");
        asked(JOINT, 0, 4 + (0 + 3), 11, 10, 21, 20);
        asked(HIDDEN, 0, 8 + (2 + 7 - 1000), 11, 10, 22, 21, 20);
        s.says("12 of CARVED ones: 0 less what 11 gives.");
        asked(CARVED, 0, 0 - (6 + 2 * (1 + 5)), 12, 11, 10, 24, 21, 20);
        s.says("13 of WAX: what 10 gives, less 100.");
        asked(WAX, 0, -90, 13, 10);
        s.due("at the least", Check.told("g0,0,0;w0,1,7;").ask(0, 0), -99);
        s.due("at the greatest", Check.told("g0,0,0;w0,20,7;").ask(0, 0), -80);
        s.says("14 of BOUGHT ones: what 13 gives, twice.");
        asked(BOUGHT, 0, 2 * (12 - 100), 14, 13, 10);
    }

    private void marks() {
        s.says("1 MARK: 20 lent to all PARTS: the number.");
        String seven = "g0,0,0;" + "j0,1,7;".repeat(6) + "h20,1,7;";
        for (int p = 0; p < 6; p++) {
            s.due("the number of " + p, Check.told(seven).ask(p, 1), p);
        }
        s.says("21 of JOINTS: what 20 gives, and NEED.");
        asked(JOINT, 1, 0 + 3, 21, 20);
        s.says("22 of HIDDEN ones: what 21 gives, less 1000.");
        asked(HIDDEN, 1, 2 + 7 - 1000, 22, 21, 20);
        s.due("of the last, at its greatest", Check.told(seven).ask(6, 1), 6 + 20 - 1000);
        s.says("23 of WAX: what 20 gives, less SIZE.");
        asked(WAX, 1, 3 - (10 - 100), 23, 20, 13, 10);
        s.says("24 of CARVED ones: what 21 gives, twice.");
        asked(CARVED, 1, 2 * (1 + 5), 24, 21, 20);
    }

    private void whichBody() {
        s.says("(Of an ask the BODY told for the KIND begins,");
        int[][] first = {{11, 21}, {12, 24}, {11, 22}, {13, 23}, {14, 23}};
        GuildPiece x = Check.told(FIVE);
        for (int p = 0; p < 5; p++) {
            for (int what = 0; what < 2; what++) {
                x.ask(p, what);
                s.due("of " + p + ", ask " + what, x.trace(0), first[p][what]);
            }
        }
        s.says("else that of the nearest KIND that it is, too,");
        asked(HIDDEN, 0, 8 + (2 + 7 - 1000), 11, 10, 22, 21, 20);
        asked(BOUGHT, 1, 4 - 2 * (12 - 100), 23, 20, 14, 13, 10);
        s.says("else the one that is lent;");
        x.ask(JOINT, 0);
        s.due("within 11, 10", x.trace(1), 10);
        x.ask(WAX, 1);
        s.due("within 23, 20", x.trace(1), 20);
        s.says("SIZE, MARK within others are asked of the same PART anew.)");
        asked(CARVED, 0, -(6 + 2 * (1 + 5)), 12, 11, 10, 24, 21, 20);
        asked(BOUGHT, 1, 4 - 2 * (12 - 100), 23, 20, 14, 13, 10);
    }

    private void kind() {
        s.says("The KIND of a PART, as told (1 to 5).");
        GuildPiece x = Check.told(FIVE);
        for (int p = 0; p < 5; p++) {
            s.due("kind(" + p + ")", x.kind(p), p + 1);
        }
        x.as(CARVED, 1);
        s.due("taken as another it is as told", x.kind(CARVED), 2);
        s.says("BAD.");
        for (int p : new int[] {MIN, -1, 5, 7, MAX}) {
            s.due("kind(" + p + ")", x.kind(p), Check.BAD);
        }
        s.due("no trial", new GuildPiece().kind(0), Check.BAD);
    }

    private void as() {
        s.says("A PART is taken as one of a KIND (0 .. 5): its number.");
        GuildPiece x = Check.told(FIVE);
        String[] are = {"110000", "111000", "110100", "100010", "100011"};
        for (int p = 0; p < 5; p++) {
            for (int kind = 0; kind < 6; kind++) {
                if (are[p].charAt(kind) == '1') {
                    s.due("as(" + p + ", " + kind + ")", x.as(p, kind), p);
                    s.due("status of none", x.status(), 0);
                }
            }
        }
        s.says("BAD;");
        for (int wrong : new int[] {MIN, -1, 6, MAX}) {
            s.due("as(0, " + wrong + ")", x.as(0, wrong), Check.BAD);
            s.due("as(" + wrong + ", 0)", x.as(wrong, 0), Check.BAD);
        }
        s.due("as(5, 0): five parts", x.as(5, 0), Check.BAD);
        s.due("as(5, 5), BAD is ahead of KIND", x.as(5, 5), Check.BAD);
        s.due("no trial", new GuildPiece().as(0, 0), Check.BAD);
        s.says("KIND: it is no such one.");
        for (int p = 0; p < 5; p++) {
            for (int kind = 0; kind < 6; kind++) {
                if (are[p].charAt(kind) == '0') {
                    s.due("as(" + p + ", " + kind + ")", x.as(p, kind), Check.KIND);
                    s.due("status", x.status(), 3);
                }
            }
        }
    }

    private void ask() {
        s.says("An ASK (0, 1) of a PART.");
        GuildPiece x = Check.told(FIVE);
        s.due("ask(0, 0)", x.ask(0, 0), 7);
        s.due("ask(0, 1)", x.ask(0, 1), 3);
        s.says("BAD.");
        for (int wrong : new int[] {MIN, -1, 2, MAX}) {
            s.due("ask(0, " + wrong + ")", x.ask(0, wrong), Check.BAD);
        }
        for (int wrong : new int[] {MIN, -1, 5, MAX}) {
            s.due("ask(" + wrong + ", 0)", x.ask(wrong, 0), Check.BAD);
        }
        s.due("no trial", new GuildPiece().ask(0, 0), Check.BAD);
        s.due("the trace stays", x.trace(0) * 100 + x.trace(1), 2120);
        s.says("THE TRACE is empty ahead of it.");
        x.ask(CARVED, 0);
        s.due("six", x.trace(5), 20);
        x.ask(WAX, 0);
        s.dues("two", new long[] {x.trace(0), x.trace(1), x.trace(2), x.trace(5)}, 13, 10, Check.NONE, Check.NONE);
    }

    private void trace() {
        s.says("Number i of THE TRACE;");
        GuildPiece x = Check.told(FIVE);
        x.ask(BOUGHT, 1);
        s.dues("the trace", new long[] {x.trace(0), x.trace(1), x.trace(2), x.trace(3), x.trace(4)}, 23, 20, 14, 13, 10);
        s.says("NONE.");
        for (int i : new int[] {MIN, -1, 5, 15, 16, MAX}) {
            s.due("trace(" + i + ")", x.trace(i), Check.NONE);
        }
        s.due("no ask yet", new GuildPiece().trace(0), Check.NONE);
    }

    private void count() {
        GuildPiece x = Check.told("g0,20,30;j0,1,7;j0,2,7;j0,3,7;e0,0,1;e0,0,2;");
        s.says("How many: 0 ROWS,");
        s.due("none", x.count(0), 0);
        for (int row = 7; row >= 0; row--) {
            x.row(row, 0, 0);
            s.due("of 7 down to " + row, x.count(0), 8 - row);
        }
        x.drop(3);
        s.due("one is dropped", x.count(0), 7);
        s.says("1 PARTS,");
        s.due("parts", x.count(1), 3);
        s.says("2 ELDERS,");
        s.due("elders", x.count(2), 2);
        s.says("3 PARTS made (bits),");
        s.due("none made", x.count(3), 0);
        x.make(0);
        x.make(2);
        s.due("made", x.count(3), 5);
        s.says("4 DAYS,");
        s.due("days", x.count(4), 16);
        s.says("5 MONEY,");
        x.feast(1);
        s.due("money", x.count(5), 28);
        s.says("6 ACTS that can be undone,");
        s.due("acts", x.count(6), 3);
        s.says("7 bytes on the tape.");
        s.due("no bytes", x.count(7), 0);
        x.feed('g');
        s.due("a byte", x.count(7), 1);
        s.says("BAD.");
        for (int what : new int[] {MIN, -1, 8, MAX}) {
            s.due("count(" + what + ")", x.count(what), Check.BAD);
            s.due("count(" + what + "), no trial", new GuildPiece().count(what), Check.BAD);
        }
    }

    private void status() {
        s.says("Of the latest call with a ROW,");
        GuildPiece x = Check.told(FIVE + "e0,0,1;");
        x.drop(0);
        s.due("drop, found", x.status(), 1);
        x.row(0, 2, 6);
        s.due("row", x.status(), 0);
        x.set(0, 6, 1);
        s.due("set, found", x.status(), 2);
        x.set(0, 5, 1);
        s.due("set", x.status(), 0);
        x.row(1, 0, -1);
        s.due("row, found", x.status(), 4);
        x.copy(0, 0, 0, 1, 1);
        s.due("copy", x.status(), 0);
        x.row(1, 0, 1);
        x.copy(0, 0, 1, 0, 1);
        s.due("copy, found", x.status(), 5);
        x.drop(1);
        s.due("drop", x.status(), 0);
        found(x);
        x.whereIs(0, 0, 0);
        s.due("whereIs", x.status(), 0);
        found(x);
        x.skills(0, 0, 1);
        s.due("skills", x.status(), 0);
        found(x);
        x.who(0, 0, 0, 1);
        s.due("who", x.status(), 0);
        x.whereIs(0, 6, 0);
        s.due("whereIs, found", x.status(), 2);
        x.skills(1, 0, 1);
        s.due("skills, found", x.status(), 1);
        x.who(0, 0, 4, 1);
        s.due("who, found", x.status(), 2);
        s.says("or as(),");
        x.as(0, 1);
        s.due("as", x.status(), 0);
        x.as(0, 2);
        s.due("as, found", x.status(), 3);
    }

    /** A call that is found to have a missing row. */
    private static void found(GuildPiece x) {
        x.drop(7);
    }

    private void statusOfWhom() {
        GuildPiece x = Check.told(FIVE + "e0,0,1;");
        Check.lay(x, 0, 21, 99, 99);
        s.says("that was not BAD, STATE, FULL:");
        found(x);
        x.row(8, 0, 0);
        x.set(8, 0, 0);
        x.copy(0, 0, 8, 0, 0);
        x.drop(8);
        x.whereIs(0, 0, 2);
        x.skills(0, 0, 7);
        x.skills(0, 0, 1);
        x.who(0, 0, 0, 9);
        x.who(0, 0, 0, 1);
        x.as(0, 6);
        s.due("all BAD", x.status(), 1);
        GuildPiece none = new GuildPiece();
        found(none);
        none.whereIs(0, 0, 0);
        none.skills(0, 0, 1);
        s.due("STATE", none.status(), 1);
        for (int i = 0; i < 121; i++) {
            none.feed(0);
        }
        s.due("FULL", none.status(), 1);
        s.says("the number of its FINDING;");
        GuildPiece y = Check.told(FIVE);
        y.row(0, 0, 1);
        y.row(1, 1, 1);
        s.dues("each", new long[] {y.drop(7), y.status(), y.set(0, 1, 0), y.status(), y.as(0, 5), y.status(),
            y.row(0, 0, -1), y.status(), y.copy(0, 0, 1, 0, 0), y.status()},
            -1000011, 1, -1000012, 2, -1000013, 3, -1000014, 4, -1000015, 5);
        s.says("0: it had none,");
        y.set(0, 0, 0);
        s.due("none", y.status(), 0);
        s.says("or there was none.");
        GuildPiece z = new GuildPiece();
        s.due("at first", z.status(), 0);
        z.feed('g');
        z.trial();
        z.count(0);
        z.row(8, 0, 0);
        s.due("no such call", z.status(), 0);
        callsBeside(y);
    }

    /** Calls without a row leave status as it is, whatever they answer. */
    private void callsBeside(GuildPiece y) {
        found(y);
        y.make(0);
        y.mend(0);
        y.idle(1);
        y.lesson();
        y.part(0, 0);
        y.stand(0);
        y.fewest(0);
        y.can();
        y.err(1, 0);
        y.drawn(1, 1, 0);
        y.image(0);
        y.restore(0);
        y.kind(0);
        y.ask(0, 0);
        y.trace(0);
        y.undo();
        s.due("calls without a row", y.status(), 1);
    }
}
