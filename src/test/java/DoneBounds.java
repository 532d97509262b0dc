/** Promises 9 to 17: what is done, call by call. */
final class DoneBounds {
    private static final int MIN = Sentences.MIN, MAX = Sentences.MAX;

    private final Sentences s;

    DoneBounds(Sentences s) {
        this.s = s;
    }

    void all() {
        s.promise(9);
        undo();
        s.promise(10);
        make();
        s.promise(11);
        mend();
        s.promise(12);
        feast();
        s.promise(13);
        idle();
        s.promise(14);
        lesson();
        s.promise(15);
        part();
        partNow();
        s.promise(16);
        elder();
        elderNow();
        s.promise(17);
        stand();
        standRefused();
    }

    private void undo() {
        s.says("The latest ACT is undone: how many can be undone yet.");
        GuildPiece x = Check.told("g19,60,99;j0,1,7;j0,1,7;e0,0,1;");
        x.make(1);
        x.make(0);
        x.feast(0);
        s.due("of three", x.undo(), 2);
        s.due("the feast", x.elder(0, 3), 0);
        s.due("of two", x.undo(), 1);
        s.due("the latest part", x.stand(3), 2);
        s.due("skill is 20 yet", x.stand(0), 20);
        s.due("an act between", x.idle(2), 57);
        s.due("of three", x.undo(), 2);
        s.due("of two", x.undo(), 1);
        s.due("of one", x.undo(), 0);
        s.dues("as at first", new long[] {x.stand(0), x.stand(1), x.stand(2), x.stand(3)}, 19, 60, 99, 0);
        s.says("STATE: none.");
        s.due("none is left", x.undo(), Check.STATE);
        s.due("no trial", new GuildPiece().undo(), Check.STATE);
        s.due("no act yet", Check.told("g0,9,9;j0,1,7;").undo(), Check.STATE);
        GuildPiece y = Check.told("g0,9,9;j0,1,7;");
        y.make(0);
        y.image(0);
        s.due("an image is no act, and leaves them", y.undo(), 0);
        y.make(0);
        y.restore(0);
        s.due("a restored one has none", y.undo(), Check.STATE);
    }

    private void make() {
        s.says("A PART is made: whether it has a FAULT (1, 0).");
        GuildPiece x = Check.told("g4,60,99;j5,1,7;j5,1,7;c10,1,7;w0,1,7;b10,1,7;b11,1,7;");
        int[] want = {1, 0, 0, 1, 0, 1};
        for (int p = 0; p < want.length; p++) {
            s.due("make(" + p + ")", x.make(p), want[p]);
            s.due("it is made, " + p, x.part(p, 3), 1);
        }
        s.says("BAD;");
        for (int p : new int[] {MIN, -1, 6, 7, MAX}) {
            s.due("make(" + p + ")", x.make(p), Check.BAD);
        }
        s.due("no trial", new GuildPiece().make(0), Check.BAD);
        s.says("STATE: it MAY not be,");
        GuildPiece y = Check.told("g0,3,3;j0,4,7;j0,1,0;b0,4,7;j0,3,7;b0,3,7;");
        s.due("a day is lacking", y.make(0), Check.STATE);
        s.due("the one ahead is lacking", y.make(1), Check.STATE);
        s.due("a piece of money is lacking", y.make(2), Check.STATE);
        s.due("days are enough", y.make(3), 0);
        s.due("money is enough", y.make(4), 0);
        s.says("it is made.");
        s.due("it is made", y.make(3), Check.STATE);
        s.due("it is bought", y.make(4), Check.STATE);
    }

    private void mend() {
        s.says("A FAULT is mended: DAYS left.");
        GuildPiece x = Check.told("g0,60,20;j9,1,7;c9,5,7;h9,2,7;w0,5,7;b11,20,7;");
        for (int p = 0; p < 5; p++) {
            x.make(p);
        }
        s.due("days", x.stand(1), 60 - 1 - 10 - 2 - 3);
        int[] want = {42, 36, 33, 27, 6};
        for (int p = 0; p < 5; p++) {
            s.due("mend(" + p + ")", x.mend(p), want[p]);
            s.due("no fault, " + p, x.part(p, 4), 0);
        }
        s.due("money stays", x.stand(2), 0);
        s.due("skill stays", x.stand(0), 4);
        s.due("all are made", x.stand(3), 31);
        s.says("BAD;");
        for (int p : new int[] {MIN, -1, 5, MAX}) {
            s.due("mend(" + p + ")", x.mend(p), Check.BAD);
        }
        s.due("no trial", new GuildPiece().mend(0), Check.BAD);
        s.says("STATE: it has none,");
        GuildPiece y = Check.told("g0,60,0;j0,1,7;w0,1,7;");
        s.due("not made", y.mend(0), Check.STATE);
        y.make(0);
        s.due("made without", y.mend(0), Check.STATE);
        s.due("not made, of wax", y.mend(1), Check.STATE);
        y.make(1);
        y.mend(1);
        s.due("mended", y.mend(1), Check.STATE);
        s.says("DAYS are fewer.");
        GuildPiece fewer = Check.told("g0,10,0;j9,5,7;");
        fewer.make(0);
        s.due("5 of 6 days", fewer.mend(0), Check.STATE);
        GuildPiece enough = Check.told("g0,11,0;j9,5,7;");
        enough.make(0);
        s.due("6 of 6 days", enough.mend(0), 0);
    }

    private void feast() {
        s.says("An ELDER is FEASTED: MONEY left.");
        GuildPiece x = Check.told("g0,9,52;j0,1,7;e0,0,1;e0,0,1;e0,0,50;");
        s.due("the first", x.feast(0), 51);
        s.due("the dearest", x.feast(2), 1);
        s.due("the last of the money", x.feast(1), 0);
        s.due("all are", x.elder(0, 3) + x.elder(1, 3) + x.elder(2, 3), 3);
        s.due("days stay", x.stand(1), 9);
        s.says("BAD;");
        for (int e : new int[] {MIN, -1, 3, 4, 5, MAX}) {
            s.due("feast(" + e + ")", x.feast(e), Check.BAD);
        }
        s.due("no trial", new GuildPiece().feast(0), Check.BAD);
        s.due("no elders", Check.told("g0,9,9;j0,1,7;").feast(0), Check.BAD);
        s.says("STATE: he is,");
        GuildPiece y = Check.told("g0,9,99;j0,1,7;e0,0,50;e0,0,49;e0,0,1;");
        y.feast(2);
        s.due("he is", y.feast(2), Check.STATE);
        s.due("money stays", y.stand(2), 98);
        s.says("MONEY is less.");
        y.feast(0);
        s.due("48 of 49", y.feast(1), Check.STATE);
        y.undo();
        y.undo();
        y.feast(0);
        s.due("49 of 49", y.feast(1), 0);
    }

    private void idle() {
        s.says("n DAYS (1 to 20) go by,");
        GuildPiece x = Check.told("g0,60,9;j0,1,7;");
        s.due("idle(1)", x.idle(1), 59);
        s.due("idle(20)", x.idle(20), 39);
        s.due("no skill, no money by it", x.stand(0) * 100 + x.stand(2), 9);
        s.says("an ACT each: DAYS left.");
        GuildPiece y = Check.told("g0,60,9;j0,1,7;");
        s.due("idle(20)", y.idle(20), 40);
        s.due("20 acts", y.count(6), 20);
        s.due("idle(4)", y.idle(4), 36);
        s.due("24 acts", y.count(6), 24);
        s.due("idle(20)", y.idle(20), 16);
        s.due("24 acts yet", y.count(6), 24);
        s.due("one is undone", y.undo(), 23);
        s.due("one day is there", y.stand(1), 17);
        s.says("BAD;");
        for (int n : new int[] {MIN, -1, 0, 21, MAX}) {
            s.due("idle(" + n + ")", y.idle(n), Check.BAD);
            s.due("with no day, idle(" + n + ")", Check.told("g0,0,9;j0,1,7;").idle(n), Check.BAD);
        }
        s.says("STATE: no TRIAL (ahead of BAD),");
        for (int n : new int[] {MIN, -1, 0, 1, 20, 21, MAX}) {
            s.due("idle(" + n + ")", new GuildPiece().idle(n), Check.STATE);
        }
        s.says("there are fewer.");
        for (int days : new int[] {1, 2, 19, 20}) {
            GuildPiece z = Check.told("g0," + (days - 1) + ",9;j0,1,7;");
            s.due("one too few", z.idle(days), Check.STATE);
            s.due("none went by", z.stand(1), days - 1);
            s.due("just enough", Check.told("g0," + days + ",9;j0,1,7;").idle(days), 0);
        }
    }

    private void lesson() {
        s.says("A lesson: SKILL.");
        GuildPiece x = Check.told("g0,9,9;j0,1,7;");
        s.due("the first", x.lesson(), 1);
        s.due("the second", x.lesson(), 2);
        s.dues("what they take", new long[] {x.stand(0), x.stand(1), x.stand(2)}, 2, 7, 3);
        s.says("STATE: no TRIAL,");
        s.due("no trial", new GuildPiece().lesson(), Check.STATE);
        s.says("no 3 of MONEY,");
        s.due("2 of money", Check.told("g0,9,2;j0,1,7;").lesson(), Check.STATE);
        s.due("3 of money", Check.told("g0,9,3;j0,1,7;").lesson(), 1);
        s.says("no DAY,");
        s.due("no day", Check.told("g0,0,9;j0,1,7;").lesson(), Check.STATE);
        s.due("a day", Check.told("g0,1,9;j0,1,7;").lesson(), 1);
        s.says("SKILL is 20.");
        s.due("19", Check.told("g19,9,9;j0,1,7;").lesson(), 20);
        GuildPiece y = Check.told("g20,9,9;j0,1,7;");
        s.due("20", y.lesson(), Check.STATE);
        s.dues("nothing was taken", new long[] {y.stand(0), y.stand(1), y.stand(2)}, 20, 9, 9);
    }

    private void part() {
        GuildPiece x = Check.told("g0,60,99;j0,1,7;c20,18,0;h3,4,1;");
        s.says("Of a PART: 0 NEED,");
        s.dues("need", new long[] {x.part(0, 0), x.part(1, 0), x.part(2, 0)}, 0, 20, 3);
        s.says("1 TIME,");
        s.dues("time", new long[] {x.part(0, 1), x.part(1, 1), x.part(2, 1)}, 1, 18, 4);
        s.says("2 which must be ahead (NONE),");
        s.dues("ahead", new long[] {x.part(0, 2), x.part(1, 2), x.part(2, 2)}, Check.NONE, 0, 1);
        s.says("3 whether made (1, 0),");
        x.make(0);
        s.dues("made", new long[] {x.part(0, 3), x.part(1, 3), x.part(2, 3)}, 1, 0, 0);
        s.says("4 whether it has a FAULT (1, 0),");
        x.make(1);
        s.dues("fault", new long[] {x.part(0, 4), x.part(1, 4), x.part(2, 4)}, 0, 1, 0);
        x.mend(1);
        s.due("mended", x.part(1, 4), 0);
        s.says("BAD.");
        for (int p : new int[] {MIN, -1, 3, 7, MAX}) {
            s.due("part(" + p + ", 0)", x.part(p, 0), Check.BAD);
        }
        for (int what : new int[] {MIN, -1, 8, MAX}) {
            s.due("part(0, " + what + ")", x.part(0, what), Check.BAD);
        }
        s.due("no trial", new GuildPiece().part(0, 0), Check.BAD);
    }

    private void partNow() {
        GuildPiece x = Check.told("g0,2,1;c1,1,7;b11,1,7;j1,1,7;w0,4,7;");
        s.says("5 what it TAKES now (DAYS; of a bought one MONEY),");
        s.dues("takes", new long[] {x.part(0, 5), x.part(1, 5), x.part(2, 5), x.part(3, 5)}, 2, 1, 1, 3);
        s.says("6 whether it would have a FAULT now (1, 0),");
        s.dues("would", new long[] {x.part(0, 6), x.part(1, 6), x.part(2, 6), x.part(3, 6)}, 0, 1, 1, 1);
        s.says("7 whether it MAY be made now (1, 0).");
        s.dues("may", new long[] {x.part(0, 7), x.part(1, 7), x.part(2, 7), x.part(3, 7)}, 1, 1, 1, 0);
        x.make(2);
        s.dues("takes, by more skill", new long[] {x.part(0, 5), x.part(1, 5), x.part(2, 5), x.part(3, 5)}, 1, 1, 1, 3);
        s.dues("would, by more skill", new long[] {x.part(0, 6), x.part(1, 6), x.part(2, 6), x.part(3, 6)}, 0, 1, 0, 1);
        s.dues("may, by more skill", new long[] {x.part(0, 7), x.part(1, 7), x.part(2, 7), x.part(3, 7)}, 1, 1, 0, 0);
        x.make(0);
        x.make(1);
        s.dues("made", new long[] {x.part(0, 7), x.part(1, 7), x.part(2, 7), x.part(3, 7)}, 0, 0, 0, 0);
    }

    private void elder() {
        GuildPiece x = Check.told("g0,60,99;j0,1,7;e0,0,1;e20,7,50;e3,4,5;");
        s.says("Of an ELDER: 0 EYE,");
        s.dues("eye", new long[] {x.elder(0, 0), x.elder(1, 0), x.elder(2, 0)}, 0, 20, 3);
        s.says("1 MILD,");
        s.dues("mild", new long[] {x.elder(0, 1), x.elder(1, 1), x.elder(2, 1)}, 0, 7, 4);
        s.says("2 PRICE,");
        s.dues("price", new long[] {x.elder(0, 2), x.elder(1, 2), x.elder(2, 2)}, 1, 50, 5);
        s.says("3 whether FEASTED (1, 0),");
        x.feast(1);
        s.dues("feasted", new long[] {x.elder(0, 3), x.elder(1, 3), x.elder(2, 3)}, 0, 1, 0);
        s.says("BAD.");
        for (int e : new int[] {MIN, -1, 3, 5, MAX}) {
            s.due("elder(" + e + ", 0)", x.elder(e, 0), Check.BAD);
        }
        for (int what : new int[] {MIN, -1, 6, MAX}) {
            s.due("elder(0, " + what + ")", x.elder(0, what), Check.BAD);
        }
        s.due("no trial", new GuildPiece().elder(0, 0), Check.BAD);
        s.due("no elders", Check.told("g0,0,0;j0,1,7;").elder(0, 0), Check.BAD);
    }

    private void elderNow() {
        GuildPiece x = Check.told("g0,60,99;" + "w0,1,7;".repeat(7) + "e20,6,1;e11,7,1;e10,0,1;");
        s.says("4 how many FAULTS he FINDS,");
        for (int made = 0; made < 7; made++) {
            s.dues("of " + made, new long[] {x.elder(0, 4), x.elder(1, 4), x.elder(2, 4)}, made, made, 0);
            s.due("he votes, of " + made, x.elder(0, 5), 1);
            x.make(made);
        }
        s.dues("of 7", new long[] {x.elder(0, 4), x.elder(1, 4), x.elder(2, 4)}, 7, 7, 0);
        s.says("5 whether he votes for it (1, 0).");
        s.dues("of 7", new long[] {x.elder(0, 5), x.elder(1, 5), x.elder(2, 5)}, 0, 1, 1);
        x.feast(0);
        s.due("feasted", x.elder(0, 5), 1);
        x.undo();
        x.mend(3);
        s.due("of 6", x.elder(0, 5), 1);
    }

    private void stand() {
        GuildPiece x = Check.told("g19,60,99;w0,1,7;j20,1,7;e11,0,9;e20,2,9;e0,0,9;");
        x.make(0);
        x.feast(2);
        s.says("0 SKILL,");
        s.due("skill", x.stand(0), 20);
        s.says("1 DAYS,");
        s.due("days", x.stand(1), 59);
        s.says("2 MONEY,");
        s.due("money", x.stand(2), 90);
        s.says("3 PARTS made (bits),");
        s.due("made", x.stand(3), 1);
        s.says("4 FAULTS (bits),");
        s.due("faults", x.stand(4), 1);
        s.says("5 ELDERS who vote for it (bits),");
        s.due("votes", x.stand(5), 6);
        s.says("6 whether it PASSES (1, 0).");
        s.due("not all are made", x.stand(6), 0);
        x.make(1);
        s.due("all are made", x.stand(6), 1);
        s.dues("made, faults", new long[] {x.stand(3), x.stand(4)}, 3, 1);
    }

    private void standRefused() {
        s.says("BAD;");
        GuildPiece x = Check.told("g0,0,0;j0,1,7;");
        for (int what : new int[] {MIN, -1, 7, MAX}) {
            s.due("stand(" + what + ")", x.stand(what), Check.BAD);
        }
        s.dues("with nothing", new long[] {x.stand(0), x.stand(1), x.stand(2), x.stand(3), x.stand(4), x.stand(5),
            x.stand(6)}, 0, 0, 0, 0, 0, 0, 0);
        s.says("STATE: no TRIAL (ahead of BAD).");
        for (int what : new int[] {MIN, -1, 0, 6, 7, MAX}) {
            s.due("stand(" + what + ")", new GuildPiece().stand(what), Check.STATE);
        }
    }
}
