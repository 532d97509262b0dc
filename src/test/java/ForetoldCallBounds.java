import java.util.function.IntToLongFunction;

/** Promises 18 to 30: the foretelling calls, what they refuse, and images. */
final class ForetoldCallBounds {
    private static final int MIN = Sentences.MIN, MAX = Sentences.MAX;

    private final Sentences s;

    ForetoldCallBounds(Sentences s) {
        this.s = s;
    }

    void all() {
        s.promise(18);
        fewest();
        s.promise(19);
        can();
        s.promise(20);
        feasts();
        s.promise(21);
        mends();
        s.promise(22);
        decides();
        s.promise(23);
        whereIs();
        whereIsFound();
        s.promise(24);
        skills();
        skillsFound();
        s.promise(25);
        who();
        whoFound();
        s.promise(26);
        err();
        s.promise(27);
        worth();
        s.promise(28);
        drawn();
        s.promise(29);
        image();
        s.promise(30);
        restore();
    }

    private void bad(String call, IntToLongFunction one, int... numbers) {
        for (int number : numbers) {
            s.due(call + " of " + number, one.applyAsLong(number), Check.BAD);
        }
    }

    private void noTrial(String call, IntToLongFunction one, int... numbers) {
        for (int number : numbers) {
            s.due(call + " of " + number + ", no trial", one.applyAsLong(number), Check.STATE);
        }
    }

    private void fewest() {
        GuildPiece x = Check.told("g0,8,0;j1,1,7;c1,3,7;");
        s.says("FEWEST: FAULTS (what = 0),");
        s.due("fewest(0)", x.fewest(0), 0);
        s.says("DAYS (1),");
        s.due("fewest(1)", x.fewest(1), 1);
        s.says("the first PART (2;");
        s.due("fewest(2)", x.fewest(2), 1);
        s.says("NONE: all are made);");
        x.make(0);
        s.due("one is left", x.fewest(2), 1);
        x.make(1);
        s.dues("all are made", new long[] {x.fewest(0), x.fewest(1), x.fewest(2)}, 1, 4, Check.NONE);
        s.says("NONE. BAD;");
        GuildPiece none = Check.told("g0,3,0;j1,1,7;c1,3,7;");
        s.dues("no row", new long[] {none.fewest(0), none.fewest(1), none.fewest(2)}, Check.NONE, Check.NONE, Check.NONE);
        bad("fewest", x::fewest, MIN, -1, 3, MAX);
        bad("fewest, no row", none::fewest, MIN, -1, 3, MAX);
        s.says("STATE: no TRIAL (ahead of BAD).");
        noTrial("fewest", new GuildPiece()::fewest, MIN, -1, 0, 1, 2, 3, MAX);
    }

    private void can() {
        s.says("CAN.");
        GuildPiece x = Check.told("g0,2,0;j0,1,7;j0,1,0;j0,1,1;");
        s.due("can", x.can(), 3);
        s.says("STATE: no TRIAL.");
        s.due("can, no trial", new GuildPiece().can(), Check.STATE);
    }

    private void feasts() {
        GuildPiece x = Check.told("g0,9,9;j1,1,7;e0,0,4;e0,0,3;e0,0,2;");
        x.make(0);
        s.says("FEASTS: how many (what = 0),");
        s.due("feasts(0)", x.feasts(0), 2);
        s.says("which (1);");
        s.due("feasts(1)", x.feasts(1), 6);
        s.says("NONE.");
        x.lesson();
        x.lesson();
        s.dues("too little money", new long[] {x.feasts(0), x.feasts(1)}, Check.NONE, Check.NONE);
        s.says("BAD;");
        bad("feasts", x::feasts, MIN, -1, 2, MAX);
        s.says("STATE: no TRIAL (ahead of BAD).");
        noTrial("feasts", new GuildPiece()::feasts, MIN, -1, 0, 1, 2, MAX);
    }

    private void mends() {
        GuildPiece x = Check.told("g0,9,9;j1,2,7;w0,2,7;e11,1,1;");
        x.make(0);
        x.make(1);
        s.says("MENDS: how many (what = 0),");
        s.due("mends(0)", x.mends(0), 1);
        s.says("which (1);");
        s.due("mends(1)", x.mends(1), 1);
        s.says("NONE.");
        x.idle(3);
        s.dues("too few days", new long[] {x.mends(0), x.mends(1)}, Check.NONE, Check.NONE);
        s.says("BAD;");
        bad("mends", x::mends, MIN, -1, 2, MAX);
        s.says("STATE: no TRIAL (ahead of BAD).");
        noTrial("mends", new GuildPiece()::mends, MIN, -1, 0, 1, 2, MAX);
    }

    private void decides() {
        s.says("DECIDES.");
        GuildPiece x = Check.told("g0,9,9;j1,1,7;e0,0,4;e0,1,3;e0,1,2;");
        s.due("three of three", x.decides(), 0);
        x.make(0);
        s.due("two of three", x.decides(), 6);
        s.says("STATE: no TRIAL.");
        s.due("decides, no trial", new GuildPiece().decides(), Check.STATE);
    }

    private static GuildPiece judged(int elders) {
        GuildPiece x = Check.told("g0,9,9;w0,1,7;w0,1,7;" + "e20,0,1;".repeat(elders));
        x.make(0);
        x.make(1);
        return x;
    }

    private void whereIs() {
        s.says("WHERE, as many ITEMS as ELDERS of a ROW from i on:");
        for (int elders = 0; elders <= 5; elders++) {
            GuildPiece x = judged(elders);
            x.row(0, 0, 3 + elders);
            for (int e = 0; e < elders; e++) {
                x.set(0, 3 + e, 1);
            }
            s.due("from 3 on, elders " + elders, x.whereIs(0, 3, 0), elders == 0 ? 4 : 2);
            s.due("from 2 on, elders " + elders, x.whereIs(0, 2, 0), elders == 0 ? 4 : elders == 1 ? 1 : 0);
        }
        s.says("how many (what = 0),");
        GuildPiece x = judged(1);
        Check.lay(x, 7, 0, 1, 2, 3);
        s.dues("how many", new long[] {x.whereIs(7, 0, 0), x.whereIs(7, 1, 0), x.whereIs(7, 2, 0), x.whereIs(7, 3, 0)},
            1, 2, 1, 0);
        s.says("the least (1);");
        s.dues("the least", new long[] {x.whereIs(7, 0, 1), x.whereIs(7, 1, 1), x.whereIs(7, 2, 1)}, 0, 1, 3);
        s.says("NONE.");
        s.due("no set", x.whereIs(7, 3, 1), Check.NONE);
        s.due("NONE is no finding", x.status(), 0);
        s.says("BAD: ROW, what;");
        bad("whereIs, row", row -> x.whereIs(row, 0, 0), MIN, -1, 8, MAX);
        bad("whereIs, what", what -> x.whereIs(7, 0, what), MIN, -1, 2, MAX);
        bad("whereIs, what of a missing row", what -> x.whereIs(0, 0, what), -1, 2);
        s.says("STATE: no TRIAL (ahead of BAD);");
        noTrial("whereIs, row", row -> new GuildPiece().whereIs(row, 0, 0), MIN, -1, 0, 7, 8, MAX);
        noTrial("whereIs, what", what -> new GuildPiece().whereIs(0, 0, what), MIN, -1, 0, 1, 2, MAX);
    }

    private void whereIsFound() {
        s.says("NULL;");
        GuildPiece x = judged(1);
        s.due("a missing row", x.whereIs(0, 0, 0), Check.NULL);
        s.due("no elders, a missing row", judged(0).whereIs(0, 0, 0), Check.NULL);
        s.says("PLACE.");
        for (int elders = 0; elders <= 5; elders++) {
            GuildPiece y = judged(elders);
            y.row(0, 0, elders);
            s.holds("just as many items, elders " + elders, y.whereIs(0, 0, 0) >= 0);
            s.due("status of none", y.status(), 0);
            s.due("one fewer by the place, elders " + elders, y.whereIs(0, 1, 0), Check.PLACE);
            s.due("status", y.status(), 2);
            s.due("below 0, elders " + elders, y.whereIs(0, -1, 0), Check.PLACE);
            if (elders > 0) {
                y.row(0, 0, elders - 1);
                s.due("one fewer, elders " + elders, y.whereIs(0, 0, 1), Check.PLACE);
            }
            s.due("that wraps around, elders " + elders, y.whereIs(0, MAX, 1), Check.PLACE);
            s.due("the least place, elders " + elders, y.whereIs(0, MIN, 1), Check.PLACE);
        }
    }

    private void skills() {
        s.says("SKILLS, 2 n ITEMS of a ROW from i on.");
        GuildPiece x = Check.told("g0,0,0;j5,1,7;j5,1,7;");
        Check.lay(x, 0, 9, 9, 9, 0, 1, 1, 0, 9, 9);
        s.due("one from 3 on", x.skills(0, 3, 1), 0b11111);
        s.due("two from 3 on", x.skills(0, 3, 2), 0b10000);
        s.due("the second from 5 on", x.skills(0, 5, 1), (1 << 21) - (1 << 5));
        s.says("BAD: ROW, n;");
        bad("skills, row", row -> x.skills(row, 3, 1), MIN, -1, 8, MAX);
        bad("skills, n", n -> x.skills(0, 0, n), MIN, -1, 0, 7, MAX);
        bad("skills, n of a missing row", n -> x.skills(1, -1, n), 0, 7);
        s.says("STATE: no TRIAL (ahead of BAD);");
        noTrial("skills, row", row -> new GuildPiece().skills(row, 0, 1), MIN, -1, 0, 7, 8, MAX);
        noTrial("skills, n", n -> new GuildPiece().skills(0, 0, n), MIN, -1, 0, 1, 6, 7, MAX);
    }

    private void skillsFound() {
        GuildPiece x = Check.told("g0,0,0;" + "j0,1,7;".repeat(7));
        s.says("NULL;");
        s.due("a missing row", x.skills(0, 0, 1), Check.NULL);
        s.says("PLACE;");
        for (int n = 1; n <= 6; n++) {
            x.row(0, 0, 2 * n);
            s.holds("just as many items", x.skills(0, 0, n) >= 0);
            s.due("status of none", x.status(), 0);
            s.due("one fewer by the place", x.skills(0, 1, n), Check.PLACE);
            s.due("status", x.status(), 2);
            s.due("below 0", x.skills(0, -1, n), Check.PLACE);
            x.row(0, 0, 2 * n - 1);
            s.due("one fewer", x.skills(0, 0, n), Check.PLACE);
            s.due("that wraps around", x.skills(0, MAX, n), Check.PLACE);
            s.due("the least place", x.skills(0, MIN, n), Check.PLACE);
        }
        s.says("then BAD: an ITEM that is no PART where it ought to be.");
        GuildPiece y = Check.told("g0,0,0;j0,1,7;j0,1,7;");
        for (int one : new int[] {MIN, -1, 2, 7, MAX}) {
            Check.lay(y, 0, one, 0, 0, 0);
            s.due("the first is " + one, y.skills(0, 0, 1), Check.BAD);
            s.due("status stays", y.status(), 0);
            Check.lay(y, 0, 0, 9, one, 0);
            s.due("the second is " + one + ", behind one that does not fit", y.skills(0, 0, 2), Check.BAD);
            s.due("it is not looked at", y.skills(0, 0, 1), 0);
            Check.lay(y, 0, 0, one, 1, one);
            s.due("where it ought not to be, " + one, y.skills(0, 0, 2), 0);
        }
        Check.lay(y, 0, 1, 0);
        s.due("the last part", y.skills(0, 0, 1), (1 << 21) - 1);
    }

    private void who() {
        s.says("WHO, 3 n ITEMS of a ROW from i on (SKILL, what it TAKES, FAULT).");
        GuildPiece x = Check.told("g0,0,0;w9,1,7;j10,4,7;");
        Check.lay(x, 0, 9, 8, 0, 9, 4, 1, 10, 4, 0);
        s.due("the carved one", x.who(1, 0, 0, 1), 1 << 2);
        s.due("joint and hidden", x.who(1, 0, 3, 1), 1 << 1 | 1 << 3);
        s.due("two from 3 on", x.who(1, 0, 3, 2), 1 << 1 | 1 << 3);
        s.due("all three", x.who(1, 0, 0, 3), 0);
        Check.lay(x, 0, 99, 99, 99, 9, 4, 1, 99, 99, 99);
        s.due("what is beside them does not matter", x.who(1, 0, 3, 1), 1 << 1 | 1 << 3);
        s.says("BAD: PART,");
        bad("who, part", part -> x.who(part, 0, 0, 1), MIN, -1, 2, 7, MAX);
        bad("who, part of a missing row", part -> x.who(part, 5, -1, 1), -1, 2);
        s.due("no trial", new GuildPiece().who(0, 0, 0, 1), Check.BAD);
        s.says("ROW, n;");
        bad("who, row", row -> x.who(0, row, 0, 1), MIN, -1, 8, MAX);
        bad("who, n", n -> x.who(0, 0, 0, n), MIN, -1, 0, 9, MAX);
        bad("who, n of a missing row", n -> x.who(0, 5, -1, n), 0, 9);
    }

    private void whoFound() {
        GuildPiece x = Check.told("g0,0,0;j0,1,7;");
        s.says("NULL;");
        s.due("a missing row", x.who(0, 0, 0, 1), Check.NULL);
        s.says("PLACE;");
        for (int n = 1; n <= 8; n++) {
            x.row(0, 0, 3 * n);
            s.due("just as many items", x.who(0, 0, 0, n), 0);
            s.due("status of none", x.status(), 0);
            s.due("one fewer by the place", x.who(0, 0, 1, n), Check.PLACE);
            s.due("status", x.status(), 2);
            s.due("below 0", x.who(0, 0, -1, n), Check.PLACE);
            x.row(0, 0, 3 * n - 1);
            s.due("one fewer", x.who(0, 0, 0, n), Check.PLACE);
            s.due("that wraps around", x.who(0, 0, MAX, n), Check.PLACE);
            s.due("the least place", x.who(0, 0, MIN, n), Check.PLACE);
        }
        s.says("then BAD: an ITEM that is no SKILL (0 to 20) where it ought to be.");
        for (int skill : new int[] {MIN, -1, 21, MAX}) {
            Check.lay(x, 0, skill, 1, 0, 0, 1, 0);
            s.due("the first is " + skill, x.who(0, 0, 0, 1), Check.BAD);
            s.due("status stays", x.status(), 0);
            Check.lay(x, 0, 0, 99, 9, skill, 1, 0);
            s.due("the second is " + skill + ", behind one that does not fit", x.who(0, 0, 0, 2), Check.BAD);
            s.due("it is not looked at", x.who(0, 0, 0, 1), 0);
            Check.lay(x, 0, 0, skill, skill);
            s.due("where it ought not to be, " + skill, x.who(0, 0, 0, 1), 0);
        }
        Check.lay(x, 0, 0, 1, 0, 20, 1, 0);
        s.due("the least and the greatest", x.who(0, 0, 0, 2), 1 << 1 | 1 << 2 | 1 << 3 | 1 << 5);
    }

    private void err() {
        GuildPiece x = Check.told("g0,0,0;j0,1,7;e0,0,1;e0,0,1;");
        s.says("ERR: above (what = 0),");
        s.due("above", x.err(2, 0), 16);
        s.says("below (1).");
        s.due("below", x.err(2, 1), 25);
        s.says("BAD;");
        bad("err, p", p -> x.err(p, 0), MIN, -1, 11, MAX);
        bad("err, what", what -> x.err(0, what), MIN, -1, 2, MAX);
        s.dues("the least and the greatest p", new long[] {x.err(0, 0), x.err(0, 1), x.err(10, 0), x.err(10, 1)},
            1, 1, 0, 1);
        s.says("STATE: no TRIAL (ahead of BAD).");
        noTrial("err, p", p -> new GuildPiece().err(p, 0), MIN, -1, 0, 10, 11, MAX);
        noTrial("err, what", what -> new GuildPiece().err(0, what), MIN, -1, 0, 1, 2, MAX);
    }

    private void worth() {
        GuildPiece x = Check.told("g0,6,0;j1,1,7;c1,3,7;");
        s.says("WORTH;");
        s.dues("worth", new long[] {x.worth(0), x.worth(1), x.worth(20)}, 1, 0, 0);
        s.says("NONE.");
        s.due("too few days", Check.told("g0,0,0;j0,20,7;").worth(19), Check.NONE);
        s.says("BAD;");
        bad("worth", x::worth, MIN, -1, 21, MAX);
        s.says("STATE: no TRIAL (ahead of BAD).");
        noTrial("worth", new GuildPiece()::worth, MIN, -1, 0, 20, 21, MAX);
    }

    private void drawn() {
        GuildPiece x = Check.told("g0,60,0;w0,1,7;w0,1,7;w0,1,7;");
        s.says("GUILD by a SEED (1 to 999999):");
        s.due("the least", x.drawn(1, 1, 0), 2);
        s.due("the greatest", x.drawn(1, 999999, 0), 4);
        s.says("PARTS (what = 0),");
        s.due("parts", x.drawn(3, 1, 0), 6);
        s.says("FAULTS (1).");
        s.due("faults", x.drawn(3, 1, 1), 2);
        s.says("BAD;");
        bad("drawn, n", n -> x.drawn(n, 1, 0), MIN, -1, 31, MAX);
        bad("drawn, seed", seed -> x.drawn(1, seed, 0), MIN, -1, 0, 1000000, MAX);
        bad("drawn, what", what -> x.drawn(1, 1, what), MIN, -1, 2, MAX);
        s.dues("the least and the greatest n", new long[] {x.drawn(0, 1, 0), x.drawn(30, 1, 0)}, 0, 7);
        s.says("STATE: no TRIAL (ahead of BAD).");
        noTrial("drawn, n", n -> new GuildPiece().drawn(n, 1, 0), MIN, -1, 0, 30, 31, MAX);
        noTrial("drawn, seed", seed -> new GuildPiece().drawn(1, seed, 0), MIN, -1, 0, 1, 999999, 1000000, MAX);
        noTrial("drawn, what", what -> new GuildPiece().drawn(1, 1, what), MIN, -1, 0, 1, 2, MAX);
    }

    private void image() {
        s.says("An IMAGE (0, 1) is kept of the TRIAL: 1.");
        GuildPiece x = Check.told("g0,9,9;j0,1,7;");
        s.due("image(0)", x.image(0), 1);
        x.make(0);
        s.due("image(1)", x.image(1), 1);
        s.due("acts stay", x.count(6), 1);
        x.restore(0);
        s.due("the first", x.stand(3), 0);
        x.restore(1);
        s.due("the second", x.stand(3), 1);
        s.due("image(0) in place of what it was", x.image(0), 1);
        x.restore(0);
        s.due("as it is now", x.stand(3), 1);
        s.says("BAD;");
        bad("image", x::image, MIN, -1, 2, MAX);
        bad("image, ahead of STATE", new GuildPiece()::image, MIN, -1, 2, MAX);
        s.says("STATE: no TRIAL.");
        noTrial("image", new GuildPiece()::image, 0, 1);
    }

    private void restore() {
        s.says("The TRIAL is as an IMAGE kept it");
        GuildPiece x = Check.told("g3,40,50;j5,2,7;c9,3,0;e9,1,4;e16,0,30;");
        x.make(0);
        x.feast(1);
        x.image(1);
        x.mend(0);
        x.make(1);
        x.feast(0);
        Check.tell(x, "g1,1,1;w0,1,7;");
        x.make(0);
        x.restore(1);
        s.dues("the trial", new long[] {x.stand(0), x.stand(1), x.stand(2), x.stand(3), x.stand(4), x.stand(5), x.count(1),
            x.count(2)}, 4, 38, 20, 1, 1, 3, 2, 2);
        s.dues("its second part", new long[] {x.kind(1), x.part(1, 0), x.part(1, 1), x.part(1, 2)}, 2, 9, 3, 0);
        s.dues("its first elder", new long[] {x.elder(0, 0), x.elder(0, 1), x.elder(0, 2), x.elder(0, 3), x.elder(0, 4)},
            9, 1, 4, 0, 1);
        s.dues("its second elder", new long[] {x.elder(1, 0), x.elder(1, 1), x.elder(1, 2), x.elder(1, 3)}, 16, 0, 30, 1);
        s.says("(no ACT can be undone then): 1.");
        s.due("none", x.undo(), Check.STATE);
        x.idle(2);
        s.due("two acts", x.count(6), 2);
        s.due("restore(1) again", x.restore(1), 1);
        s.due("no act", x.count(6), 0);
        s.due("undo", x.undo(), Check.STATE);
        s.due("the days are there", x.stand(1), 38);
        s.says("BAD;");
        bad("restore", x::restore, MIN, -1, 2, MAX);
        bad("restore, ahead of STATE", new GuildPiece()::restore, MIN, -1, 2, MAX);
        s.says("STATE: none was kept.");
        s.due("restore(0): the other was", x.restore(0), Check.STATE);
        noTrial("restore", new GuildPiece()::restore, 0, 1);
    }
}
