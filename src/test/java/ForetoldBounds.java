import java.util.function.Consumer;

/** Section 3: what is foretold. */
final class ForetoldBounds {
    private final Sentences s;

    ForetoldBounds(Sentences s) {
        this.s = s;
    }

    void all() {
        s.under("Section 3");
        nothingChanges();
        fewest();
        fewestOfSeveral();
        can();
        feasts();
        mends();
        decides();
        where();
        skills();
        who();
        err();
        worth();
        guild();
        kinds();
    }

    private void stays(String call, Consumer<GuildPiece> one) {
        s.holds(call + " changes nothing", Unchanged.by(Unchanged::begun, one));
        s.holds(call + " changes nothing, with no day", Unchanged.by(Unchanged::poor, one));
    }

    private void nothingChanges() {
        s.says("FORETOLD (nothing changes).");
        stays("fewest(0)", x -> x.fewest(0));
        stays("fewest(1)", x -> x.fewest(1));
        stays("fewest(2)", x -> x.fewest(2));
        stays("can", GuildPiece::can);
        stays("feasts(0)", x -> x.feasts(0));
        stays("feasts(1)", x -> x.feasts(1));
        stays("mends(0)", x -> x.mends(0));
        stays("mends(1)", x -> x.mends(1));
        stays("decides", GuildPiece::decides);
        stays("whereIs(0, 0, 0)", x -> x.whereIs(0, 0, 0));
        stays("whereIs(0, 1, 1)", x -> x.whereIs(0, 1, 1));
        stays("skills(0, 0, 1)", x -> x.skills(0, 0, 1));
        stays("who(0, 0, 0, 1)", x -> x.who(0, 0, 0, 1));
        stays("err(3, 0)", x -> x.err(3, 0));
        stays("err(3, 1)", x -> x.err(3, 1));
        stays("worth(0)", x -> x.worth(0));
        stays("worth(20)", x -> x.worth(20));
        stays("drawn(30, 5, 0)", x -> x.drawn(30, 5, 0));
        stays("drawn(30, 5, 1)", x -> x.drawn(30, 5, 1));
        askedAtEachStep();
    }

    /** Acts by their numbers: a part is made (0 to 6), an elder feasted (10 on), the latest undone (20). */
    private static final int[] STEPS = {10, 11, 12, 1, 20, 0, 3, 20, 2, 1, 20, 3, 1, 4, 20, 20, 20, 20, 20, 4, 3, 2};

    private static void step(GuildPiece x, int act) {
        if (act == 20) {
            x.undo();
        } else if (act >= 10) {
            x.feast(act - 10);
        } else {
            x.make(act);
        }
    }

    /** What was foretold ahead of an act leaves nothing in what is foretold behind it. */
    private void askedAtEachStep() {
        String text = "g2,20,9;j3,2,7;c4,3,7;w1,2,0;b11,4,7;h5,3,7;e9,0,1;e20,1,1;e12,0,1;";
        GuildPiece asked = Check.told(text);
        for (int steps = 0; steps <= STEPS.length; steps++) {
            GuildPiece fresh = Check.told(text);
            for (int i = 0; i < steps; i++) {
                step(fresh, STEPS[i]);
            }
            s.dues("at step " + steps, new long[] {asked.worth(20), asked.fewest(0), asked.can(), asked.fewest(2),
                asked.drawn(30, 5, 1), asked.fewest(1)}, fresh.worth(20), fresh.fewest(0), fresh.can(), fresh.fewest(2),
                fresh.drawn(30, 5, 1), fresh.fewest(1));
            if (steps < STEPS.length) {
                step(asked, STEPS[steps]);
            }
        }
    }

    private void fewestIs(String name, GuildPiece x, int faults, int days, int first) {
        s.dues(name, new long[] {x.fewest(0), x.fewest(1), x.fewest(2)}, faults, days, first);
    }

    private void fewestIs(String text, int faults, int days, int first) {
        fewestIs(text, Check.told(text), faults, days, first);
    }

    private void noRow(String text) {
        fewestIs(text, Check.NONE, Check.NONE, Check.NONE);
    }

    private void fewest() {
        s.says("FEWEST: rows in which all PARTS that are not made are made,");
        fewestIs("g0,4,0;j0,1,7;j0,3,7;", 0, 0, 0);
        noRow("g0,3,0;j0,1,7;j0,3,7;");
        fewestIs("g0,60,99;" + "j0,1,7;".repeat(7), 0, 53, 0);
        fewestIs("g0,7,0;" + "j0,1,7;".repeat(7), 0, 0, 0);
        noRow("g0,6,0;" + "j0,1,7;".repeat(7));
        s.says("one behind another,");
        fewestIs("g0,20,0;j2,1,7;j1,1,7;j0,1,7;", 0, 17, 2);
        fewestIs("g18,20,0;j20,1,7;j20,1,7;j19,1,7;j0,1,7;", 0, 16, 3);
        s.says("as they MAY:");
        fewestIs("g4,9,0;j5,1,7;j0,1,7;", 0, 7, 1);
        fewestIs("g4,9,0;j5,1,7;j0,1,0;", 1, 7, 0);
        fewestIs("g0,0,5;b0,2,7;b0,3,7;", 0, 0, 0);
        noRow("g0,60,4;b0,2,7;b0,3,7;");
        noRow("g0,60,4;j0,1,7;j0,1,7;b0,5,1;");
        fewestIs("g0,4,0;c1,3,7;j0,1,7;", 0, 0, 1);
        noRow("g0,3,0;c1,3,7;j0,1,7;");
        noRow("g0,6,0;c1,3,7;j0,1,0;");
        fewestIs("g0,7,0;c1,3,7;j0,1,0;", 0, 0, 0);
        s.says("the fewest FAULTS of all made then,");
        fewestIs("g0,7,0;j1,1,7;c1,3,7;", 0, 0, 1);
        fewestIs("g0,6,0;j1,1,7;c1,3,7;", 1, 2, 0);
        GuildPiece x = Check.told("g0,60,0;j1,1,7;j1,1,7;w0,1,7;");
        fewestIs("nothing is made", x, 1, 57, 2);
        x.make(0);
        fewestIs("what is made with a fault counts", x, 2, 57, 1);
        x.mend(0);
        fewestIs("what is mended does not", x, 1, 55, 1);
        fewestIs("g20,60,99;" + "w0,1,7;".repeat(7), 7, 53, 0);
        fewestIs("what is made has taught already", made("g0,20,0;j0,1,7;j2,1,7;", 1), 1, 18, 1);
        fewestIs("what is bought is paid already", made("g0,0,5;b0,3,7;b0,2,7;", 1), 0, 0, 1);
        GuildPiece y = Check.told("g0,60,0;j1,1,7;j0,1,7;j0,1,7;");
        fewestIs("the first not first", y, 0, 57, 1);
        y.make(0);
        y.make(2);
        fewestIs("it was", y, 1, 57, 1);
    }

    private void fewestOfSeveral() {
        s.says("of these the most DAYS left then:");
        fewestIs("g0,20,0;c1,6,7;j9,1,7;", 1, 13, 1);
        fewestIs("g0,60,0;c1,20,7;c2,10,7;c3,5,7;", 0, 20, 2);
        fewestIs("g2,60,0;c4,20,7;c3,20,7;j0,1,7;", 0, 19, 2);
        s.says("FAULTS; DAYS;");
        fewestIs("g0,9,9;w0,3,7;b11,9,7;", 2, 7, 0);
        s.says("the first PART of the first such row (by numbers); NONE.");
        fewestIs("g0,9,0;j0,1,7;j0,1,7;", 0, 7, 0);
        fewestIs("g0,9,0;c1,1,7;j0,1,7;j0,1,7;", 0, 6, 1);
        fewestIs("g0,9,9;b0,1,7;c1,1,7;j0,1,7;", 0, 7, 0);
        fewestIs("g0,9,9;c1,1,7;j0,1,7;b0,1,7;", 0, 7, 1);
        GuildPiece x = Check.told("g0,9,9;j0,1,7;j0,1,7;j0,1,0;");
        x.make(0);
        fewestIs("the first is made", x, 0, 6, 1);
        x.make(1);
        fewestIs("two are made", x, 0, 6, 2);
        x.make(2);
        fewestIs("nothing is left to be made", x, 0, 6, Check.NONE);
        fewestIs("nothing is left, of what was bought", made("g0,9,9;b0,1,7;j0,1,7;", 2), 0, 8, Check.NONE);
        noRow("g0,0,0;j0,1,7;");
    }

    private void canBe(String text, int want) {
        s.due("can, " + text, Check.told(text).can(), want);
    }

    private void can() {
        s.says("CAN: PARTS (bits) that are not made,");
        GuildPiece x = Check.told("g0,9,9;j0,1,7;j0,1,7;j0,1,7;");
        s.due("none is made", x.can(), 7);
        x.make(1);
        s.due("one is made", x.can(), 5);
        x.make(0);
        x.make(2);
        s.due("nothing is left to be made", x.can(), 0);
        s.says("and MAY be at some time in a row of others that are made ahead of them");
        canBe("g0,4,0;c1,3,7;j0,1,7;", 3);
        canBe("g0,3,0;c1,3,7;j0,1,7;", 2);
        canBe("g0,3,0;j0,1,7;j0,1,0;j0,1,1;", 7);
        canBe("g0,2,0;j0,1,7;j0,1,0;j0,1,1;", 3);
        canBe("g0,1,0;j0,1,7;j0,1,0;j0,1,1;", 1);
        canBe("g0,0,0;j0,1,7;j0,1,0;j0,1,1;", 0);
        canBe("g0,5,0;j0,5,7;j0,5,7;j0,6,7;", 3);
        canBe("g0,7,9;" + "j0,1,7;j0,1,0;j0,1,1;j0,1,2;j0,1,3;j0,1,4;j0,1,5;", 127);
        canBe("g0,6,9;" + "j0,1,7;j0,1,0;j0,1,1;j0,1,2;j0,1,3;j0,1,4;j0,1,5;", 63);
        // a fault more with more days left is worth it here
        canBe("g0,7,0;j1,1,7;c1,3,7;j0,3,1;", 7);
        canBe("g0,6,0;j1,1,7;c1,3,7;j0,3,1;", 3);
        s.says("(as they MAY).");
        canBe("g0,0,5;b0,5,7;b0,5,7;b0,6,7;", 3);
        canBe("g0,0,5;b0,3,7;b0,3,0;b0,2,0;", 5);
        canBe("g0,1,5;b0,5,7;j0,1,0;j0,2,0;", 3);
        canBe("g0,60,0;b0,1,7;j0,1,0;", 0);
    }

    private void feastsAre(String name, GuildPiece x, int many, int which) {
        s.dues(name, new long[] {x.feasts(0), x.feasts(1)}, many, which);
    }

    private static GuildPiece made(String text, int parts) {
        GuildPiece x = Check.told(text);
        for (int p = 0; p < parts; p++) {
            x.make(p);
        }
        return x;
    }

    private void feasts() {
        s.says("FEASTS: the fewest ELDERS to be FEASTED now");
        feastsAre("it wins", made("g0,9,99;j1,1,7;e0,1,1;e0,1,1;e0,0,1;", 1), 0, 0);
        feastsAre("one of three", made("g0,9,99;j1,1,7;e0,1,1;e0,0,9;e0,0,8;", 1), 1, 4);
        feastsAre("two of three", made("g0,9,99;j1,1,7;e0,0,7;e0,0,9;e0,0,8;", 1), 2, 5);
        feastsAre("two of two", made("g0,9,99;j1,1,7;e0,0,7;e0,0,9;", 1), 2, 3);
        feastsAre("three of five", made("g0,9,99;j1,1,7;e0,0,9;e0,0,8;e0,0,7;e0,0,6;e0,0,5;", 1), 3, 28);
        feastsAre("what is made without a fault", made("g0,9,99;j0,1,7;e0,0,1;", 1), 0, 0);
        feastsAre("no elders", made("g0,9,99;j1,1,7;", 1), 0, 0);
        s.says("(by MONEY there is) so");
        feastsAre("just enough", made("g0,9,12;j1,1,7;e0,0,6;e0,0,6;e0,0,6;", 1), 2, 3);
        feastsAre("one too little", made("g0,9,11;j1,1,7;e0,0,6;e0,0,6;e0,0,6;", 1), Check.NONE, Check.NONE);
        feastsAre("none is needed of none", made("g0,9,0;j1,1,7;e0,1,50;", 1), 0, 0);
        s.says("so that it WINS: how many; which (bits),");
        GuildPiece x = made("g0,9,20;j1,1,7;e0,0,5;e0,0,5;e0,0,5;e0,0,5;", 1);
        feastsAre("just half is not enough", x, 3, 7);
        x.feast(3);
        feastsAre("he who is feasted is not again", x, 2, 3);
        x.feast(0);
        feastsAre("nor he", x, 1, 2);
        x.feast(1);
        feastsAre("it wins", x, 0, 0);
        s.says("of several the cheapest,");
        feastsAre("the last", made("g0,9,99;j1,1,7;e0,0,3;e0,0,2;e0,0,1;e0,1,1;e0,1,1;", 1), 1, 4);
        feastsAre("not he who votes for it", made("g0,9,99;j1,1,7;e0,1,1;e0,0,50;e0,0,49;", 1), 1, 4);
        feastsAre("two by their sum", made("g0,9,99;j1,1,7;e0,0,9;e0,0,3;e0,0,5;", 1), 2, 6);
        s.says("of these the least; NONE. MENDS");
        feastsAre("three alike", made("g0,9,99;j1,1,7;e0,0,2;e0,0,2;e0,0,2;", 1), 2, 3);
        feastsAre("of one sum", made("g0,9,99;j1,1,7;e0,0,4;e0,0,2;e0,0,3;e0,0,3;e0,1,1;", 1), 2, 6);
        feastsAre("NONE", made("g0,9,0;j1,1,7;e0,0,1;", 1), Check.NONE, Check.NONE);
    }

    private void mendsAre(String name, GuildPiece x, int many, int which) {
        s.dues(name, new long[] {x.mends(0), x.mends(1)}, many, which);
    }

    private void mends() {
        s.says("MENDS: the fewest FAULTS to be mended now");
        mendsAre("it wins", made("g0,60,0;w0,1,7;w0,1,7;e20,2,1;", 2), 0, 0);
        mendsAre("one", made("g0,60,0;w0,1,7;w0,1,7;e20,1,1;", 2), 1, 1);
        mendsAre("two", made("g0,60,0;w0,1,7;w0,1,7;e20,0,1;", 2), 2, 3);
        // the joint is found by the first, and alone too much for him; both of wax for the second
        mendsAre("one rather than two that are less",
            made("g0,60,0;w0,1,7;w0,1,7;j9,1,7;e0,0,1;e20,1,1;e0,7,1;", 3), 1, 4);
        mendsAre("all seven", made("g0,60,0;" + "w0,1,7;".repeat(7) + "e20,0,1;", 7), 7, 127);
        mendsAre("what is made without a fault", made("g0,60,0;j0,1,7;w0,1,7;e20,0,1;", 2), 1, 2);
        mendsAre("no elders", made("g0,60,0;w0,1,7;", 1), 0, 0);
        // the joint is found by the first, the wax by the second alone; the third votes for it
        GuildPiece x = made("g0,43,0;j9,20,7;w0,1,7;w0,1,7;e0,0,1;e20,1,1;e0,7,1;", 3);
        s.says("(by DAYS there are)");
        mendsAre("21 days: the joint", x, 1, 1);
        x.idle(1);
        mendsAre("20 days: both of wax", x, 2, 6);
        x.idle(16);
        mendsAre("4 days: both of wax", x, 2, 6);
        x.idle(1);
        mendsAre("3 days", x, Check.NONE, Check.NONE);
        s.says("so that it WINS: how many; which PARTS (bits),");
        mendsAre("just half is not enough", made("g0,60,0;w0,1,7;e20,0,1;e0,7,1;", 1), 1, 1);
        mendsAre("what nobody finds is not mended", made("g0,60,0;w0,1,7;j9,1,7;w0,1,7;e10,0,1;", 3), 1, 2);
        s.says("of several the least; NONE.");
        mendsAre("not the shortest", made("g0,60,0;j9,9,7;j9,1,7;e0,1,1;", 2), 1, 1);
        mendsAre("by days the next", made("g0,19,0;j9,9,7;j9,1,7;e0,1,1;", 2), 1, 2);
        mendsAre("by days just this", made("g0,20,0;j9,9,7;j9,1,7;e0,1,1;", 2), 1, 1);
        mendsAre("the least pair", made("g0,60,0;w0,1,7;w0,1,7;w0,1,7;w0,1,7;e20,2,1;", 4), 2, 3);
        mendsAre("NONE", made("g0,1,0;w0,1,7;e20,0,1;", 1), Check.NONE, Check.NONE);
    }

    private void decides() {
        s.says("DECIDES: ELDERS (bits) each of whom, voting otherwise alone, would turn whether it WINS.");
        // by how many elders there are, by how many of them, the first ones, vote for it
        int[][] want = {{0}, {1, 1}, {0, 2, 3}, {0, 6, 3, 0}, {0, 0, 12, 7, 0}, {0, 0, 28, 7, 0, 0}};
        for (int elders = 0; elders <= 5; elders++) {
            for (int votes = 0; votes <= elders; votes++) {
                StringBuilder text = new StringBuilder("g0,60,99;j1,1,7;");
                for (int e = 0; e < elders; e++) {
                    text.append(e < votes ? "e0,1,1;" : "e0,0,1;");
                }
                s.due(votes + " of " + elders, made(text.toString(), 1).decides(), want[elders][votes]);
            }
        }
        GuildPiece x = made("g0,60,9;j1,1,7;e0,0,1;e0,0,1;e0,0,1;", 1);
        x.feast(2);
        s.due("he who is feasted votes for it", x.decides(), 3);
        x.feast(0);
        s.due("and would turn it", x.decides(), 5);
    }

    private void whereIs(String name, GuildPiece x, int i, int many, int least) {
        s.dues(name, new long[] {x.whereIs(0, i, 0), x.whereIs(0, i, 1)}, many, least);
    }

    private void where() {
        s.says("WHERE: a row tells how many FAULTS each ELDER FINDS (as many ITEMS as ELDERS):");
        // the first finds all, the second the joints alone
        GuildPiece x = made("g20,60,99;j0,1,7;h11,1,7;w0,1,7;b0,1,7;j0,1,7;e16,0,1;e10,0,1;", 4);
        Check.lay(x, 0, 0, 0, 1, 0, 1, 1, 2, 1, 4, 1, 0, 1);
        whereIs("none, none", x, 0, 1, 0);
        whereIs("one, none", x, 2, 3, 0b0010);
        whereIs("one, one", x, 4, 1, 0b0001);
        whereIs("two, one", x, 6, 3, 0b0011);
        whereIs("four, one", x, 8, 1, 0b1111);
        s.says("sets of PARTS that are made (bits) by whose FAULTS, and no others, it would be so:");
        whereIs("none, one", x, 10, 0, Check.NONE);
        Check.lay(x, 0, 2, 2, 3, 0, 5, 1);
        whereIs("two, two: one joint is made", x, 0, 0, Check.NONE);
        whereIs("three, none: all but the joint", x, 2, 1, 0b1110);
        whereIs("five: four are made", x, 4, 0, Check.NONE);
        x.make(4);
        whereIs("two, two: both joints are made", x, 0, 1, 0b10001);
        s.says("how many; the least; NONE. SKILLS");
        GuildPiece y = RowsBounds.teller();
        Check.lay(y, 0, 0, 1, 2, 3, 6, 7, 8, -1);
        int[] many = {1, 7, 21, 35, 7, 1, 0, 0};
        int[] least = {0, 1, 3, 7, 63, 127, Check.NONE, Check.NONE};
        for (int i = 0; i < 8; i++) {
            whereIs("of seven, item " + i, y, i, many[i], least[i]);
        }
        GuildPiece none = Check.told("g0,60,0;w0,1,7;w0,1,7;");
        none.row(0, 0, 0);
        whereIs("no elders, nothing made", none, 0, 1, 0);
        none.make(1);
        whereIs("no elders, one made", none, 0, 2, 0);
    }

    private int skillsOf(GuildPiece x, int... items) {
        Check.lay(x, 0, items);
        return x.skills(0, 0, items.length / 2);
    }

    /** The bits of all skills from one to another. */
    private static int from(int least, int most) {
        return (1 << most + 1) - (1 << least);
    }

    private void skills() {
        s.says("SKILLS: a row tells whether (1, 0) PARTS, made one behind another");
        GuildPiece x = Check.told("g9,0,0;j5,20,7;c12,20,7;h20,9,7;w0,9,7;b11,9,7;b10,9,7;j0,1,7;");
        s.due("a joint with", skillsOf(x, 0, 1), from(0, 4));
        s.due("a joint without", skillsOf(x, 0, 0), from(5, 20));
        s.due("a carved one with", skillsOf(x, 1, 1), from(0, 6));
        s.due("a carved one without", skillsOf(x, 1, 0), from(7, 20));
        s.due("a hidden one with", skillsOf(x, 2, 1), from(0, 19));
        s.due("a hidden one without", skillsOf(x, 2, 0), from(20, 20));
        s.due("wax with", skillsOf(x, 3, 1), from(0, 20));
        s.due("wax without", skillsOf(x, 3, 0), 0);
        s.due("a bought one with", skillsOf(x, 4, 1), from(0, 20));
        s.due("a bought one without", skillsOf(x, 4, 0), 0);
        s.due("another with", skillsOf(x, 5, 1), 0);
        s.due("another without", skillsOf(x, 5, 0), from(0, 20));
        s.due("the first with, the second without", skillsOf(x, 1, 1, 0, 0), from(4, 6));
        s.says("(PART and that, by turns, n of them, 1 to 6) from now on, have a FAULT:");
        s.due("six of them", skillsOf(x, 6, 0, 3, 1, 4, 1, 5, 0, 0, 1, 1, 1), from(0, 2));
        s.due("six, then five learnt from", skillsOf(x, 6, 0, 3, 1, 0, 0, 4, 1, 1, 0, 2, 1), from(4, 15));
        s.says("SKILL (0 to 20, bits) now by which it is so");
        s.due("the least", skillsOf(Check.told("g0,0,0;j1,1,7;"), 0, 1), 1);
        s.due("the greatest", skillsOf(Check.told("g0,0,0;j20,1,7;"), 0, 0), 1 << 20);
        s.due("learnt by one", skillsOf(x, 6, 0, 2, 0), from(19, 20));
        s.due("learnt by wax", skillsOf(x, 3, 1, 2, 0), from(19, 20));
        s.due("learnt by what is bought: nothing", skillsOf(x, 4, 1, 2, 0), from(20, 20));
        s.due("not learnt beyond 20", skillsOf(x, 6, 0, 3, 1, 2, 0), from(18, 20));
        s.says("(each must not be made,");
        GuildPiece y = made("g9,60,0;j0,1,7;j0,1,7;j0,1,1;j0,1,2;", 1);
        s.due("one is made", skillsOf(y, 0, 0), 0);
        s.due("one is not", skillsOf(y, 1, 0), from(0, 20));
        s.due("one twice", skillsOf(y, 1, 0, 1, 0), 0);
        s.due("behind others", skillsOf(y, 1, 0, 0, 0), 0);
        s.says("and what must be ahead of it must be;");
        s.due("it is not", skillsOf(y, 2, 0), 0);
        s.due("it is by then", skillsOf(y, 1, 0, 2, 0, 3, 0), from(0, 20));
        s.due("behind it is too late", skillsOf(y, 2, 0, 1, 0), 0);
        y.make(1);
        s.due("it is now", skillsOf(y, 2, 0), from(0, 20));
        s.says("DAYS, MONEY do not matter).");
        GuildPiece poor = Check.told("g0,0,0;j0,20,7;b0,20,7;c20,20,7;");
        s.due("with none", skillsOf(poor, 0, 0, 1, 0, 2, 0), from(14, 20));
    }

    private int whoIs(GuildPiece x, int part, int... items) {
        Check.lay(x, 0, items);
        return x.who(part, 0, 0, items.length / 3);
    }

    private void who() {
        int joint = 2, carved = 4, hidden = 8, wax = 16, bought = 32;
        s.says("WHO: a row tells what a PART would TAKE,");
        GuildPiece x = Check.told("g0,0,0;j10,4,7;c11,4,7;w10,2,7;b6,1,7;");
        s.due("4 without at 10", whoIs(x, 0, 10, 4, 0), joint + carved + hidden + bought);
        s.due("8 without at 9", whoIs(x, 0, 9, 8, 0), carved);
        s.due("3 with at 10", whoIs(x, 0, 10, 3, 1), wax);
        s.due("5 at 10", whoIs(x, 0, 10, 5, 1), 0);
        s.due("1 with at 0", whoIs(x, 3, 0, 1, 1), joint + hidden + wax);
        s.says("and whether (1, 0) it had a FAULT,");
        s.due("4 with at 9", whoIs(x, 0, 9, 4, 1), joint + hidden);
        s.due("4 without at 9", whoIs(x, 0, 9, 4, 0), bought);
        s.due("4 with at 20 of 11", whoIs(x, 1, 20, 4, 1), bought);
        s.due("8 with at 4", whoIs(x, 0, 4, 8, 1), carved);
        s.due("8 without at 5", whoIs(x, 0, 5, 8, 0), carved);
        s.due("8 with at 5", whoIs(x, 0, 5, 8, 1), 0);
        s.due("2 with at 9 of 2", whoIs(x, 2, 9, 2, 1), joint + hidden + wax);
        s.says("at SKILLS told, n (1 to 8) by threes:");
        s.due("at two", whoIs(x, 0, 9, 4, 1, 10, 4, 0), joint + hidden);
        s.due("at two, of which the second does not fit", whoIs(x, 0, 9, 4, 1, 10, 4, 1), 0);
        s.due("at the least and the greatest", whoIs(x, 0, 0, 8, 1, 20, 4, 0), carved);
        s.due("at eight", whoIs(x, 0, 9, 8, 0, 0, 8, 1, 4, 8, 1, 5, 8, 0, 10, 4, 0, 11, 4, 0, 19, 4, 0, 20, 4, 0),
            carved);
        s.due("the eighth counts", whoIs(x, 0, 9, 8, 0, 0, 8, 1, 4, 8, 1, 5, 8, 0, 10, 4, 0, 11, 4, 0, 19, 4, 0, 9, 4, 0),
            0);
        s.says("KINDS (bits 1 to 5) by which it is so");
        s.due("all but carved", whoIs(Check.told("g0,0,0;h20,1,7;"), 0, 0, 1, 1), joint + hidden + wax + bought);
        s.due("all but wax", whoIs(Check.told("g0,0,0;h0,9,7;"), 0, 0, 9, 0), joint + carved + hidden + bought);
        s.says("(NEED, TIME as they are;");
        GuildPiece y = made("g0,60,0;j10,4,7;j20,20,7;", 1);
        s.due("of one that is made", whoIs(y, 0, 0, 4, 1), joint + hidden);
        s.due("twice the greatest", whoIs(y, 1, 19, 40, 0), carved);
        s.says("by one that is bought: MONEY it takes).");
        s.due("its time, at each skill", whoIs(x, 1, 0, 4, 1, 20, 4, 1), bought);
    }

    private void errIs(String name, GuildPiece x, int p, long above, long below) {
        s.dues(name + " by " + p, new long[] {x.err(p, 0), x.err(p, 1)}, above, below);
    }

    private void err() {
        s.says("ERR by p of 10 (0 to 10): each ELDER votes otherwise than he would in p of 10 cases, apart:");
        GuildPiece one = made("g0,60,0;j1,1,7;e0,0,1;", 1);
        GuildPiece two = made("g0,60,0;j1,1,7;e0,1,1;e0,0,1;", 1);
        GuildPiece three = made("g0,60,0;j1,1,7;e0,1,1;e0,1,1;e0,1,1;", 1);
        errIs("one against", one, 1, 1, 10);
        errIs("one for, one against", two, 1, 9, 100);
        errIs("three for", three, 1, 243, 250);
        errIs("three for", three, 5, 1, 2);
        errIs("one for what is made without a fault", made("g0,60,0;j0,1,7;e0,0,1;", 1), 1, 9, 10);
        s.says("how likely it WINS: a fraction.");
        errIs("one against", one, 0, 0, 1);
        errIs("one against", one, 10, 1, 1);
        errIs("one for, one against", two, 0, 0, 1);
        errIs("one for, one against", two, 10, 0, 1);
        errIs("one for, one against", two, 5, 1, 4);
        errIs("three for", three, 0, 1, 1);
        errIs("three for", three, 10, 0, 1);
        GuildPiece four = made("g0,60,0;j1,1,7;" + "e0,1,1;".repeat(4), 1);
        errIs("four for", four, 5, 5, 16);
        GuildPiece five = made("g0,60,0;j1,1,7;" + "e0,1,1;".repeat(5), 1);
        errIs("five for", five, 9, 107, 12500);
        errIs("five for", five, 1, 12393, 12500);
        GuildPiece none = made("g0,60,0;j1,1,7;", 1);
        for (int p = 0; p <= 10; p++) {
            errIs("no elders", none, p, 1, 1);
        }
    }

    private void worth() {
        s.says("WORTH of DAYS (0 to 20): FAULTS of FEWEST with so many DAYS more; NONE.");
        GuildPiece x = Check.told("g0,3,0;j1,1,7;c1,3,7;");
        int[] want = {Check.NONE, 1, 1, 1, 0, 0};
        for (int days = 0; days < want.length; days++) {
            s.due("worth(" + days + ")", x.worth(days), want[days]);
        }
        s.due("worth(20)", x.worth(20), 0);
        GuildPiece y = Check.told("g0,0,0;j0,20,7;");
        s.due("a day is lacking", y.worth(19), Check.NONE);
        s.due("just enough", y.worth(20), 0);
        GuildPiece z = Check.told("g0,60,0;" + "j0,20,7;".repeat(4));
        s.due("79 days", z.worth(19), Check.NONE);
        s.due("80 days", z.worth(20), 0);
        GuildPiece none = made("g0,1,0;w0,1,7;", 1);
        s.due("nothing is left to be made", none.worth(0), 1);
        s.due("no money by it", Check.told("g0,60,0;b0,1,7;").worth(20), Check.NONE);
    }

    private void drawn(String name, GuildPiece x, int n, int seed, int parts, int faults) {
        s.dues(name + ", " + n + " of " + seed, new long[] {x.drawn(n, seed, 0), x.drawn(n, seed, 1)}, parts, faults);
    }

    private void guild() {
        s.says("GUILD of n (0 to 30) by a SEED (X at first):");
        GuildPiece x = Check.told("g0,60,99;" + "j0,1,7;".repeat(7));
        drawn("no draw", x, 0, 1, 0, 0);
        drawn("no draw", x, 0, 999999, 0, 0);
        drawn("the first draw", x, 1, 1, 1, 0);
        drawn("the most draws", x, 30, 1, 127, 0);
        drawn("the most draws", x, 30, 999999, 127, 0);
        guildDraws(x);
        guildMayMake();
        guildFaults(x);
        guildTells();
    }

    private void guildDraws(GuildPiece x) {
        s.says("in each X becomes the rest of (X times 16807) by 2147483647;");
        // the parts drawn of seed 1: 0 0 2 6 6 6 2 1 1 1 6 2 0 6 0 5 2 4 4 3; of 999999: 0 0 4 5 4 2 3 3 6 5 1
        int[] ofOne = {1, 1, 5, 69, 69, 69, 69, 71, 71, 71, 71, 71, 71, 71, 71, 103, 103, 119, 119, 127};
        int[] ofMost = {1, 1, 17, 49, 49, 53, 61, 61, 125, 125, 127};
        for (int n = 1; n <= ofOne.length; n++) {
            drawn("of seed 1", x, n, 1, ofOne[n - 1], 0);
        }
        for (int n = 1; n <= ofMost.length; n++) {
            drawn("of seed 999999", x, n, 999999, ofMost[n - 1], 0);
        }
        // times 16807: 2147480811, which is less than 2147483647, and 2147497618, which leaves 13971
        drawn("the last without a rest", x, 1, 127773, 1, 0);
        drawn("the first with a rest", x, 1, 127774, 64, 0);
        s.says("the PART that is the rest of X by how many there are is made,");
        // 16807 by 1 to 7 leaves 0 1 1 3 2 1 0
        int[] rests = {0, 1, 1, 3, 2, 1, 0};
        for (int parts = 1; parts <= 7; parts++) {
            GuildPiece y = Check.told("g0,60,99;" + "j0,1,7;".repeat(parts));
            drawn("of " + parts, y, 1, 1, 1 << rests[parts - 1], 0);
        }
    }

    private void guildMayMake() {
        s.says("if it MAY be;");
        drawn("no day", Check.told("g0,0,99;" + "j0,1,7;".repeat(7)), 30, 1, 0, 0);
        drawn("a day", Check.told("g0,1,99;" + "j0,1,7;".repeat(7)), 30, 1, 1, 0);
        drawn("two days", Check.told("g0,2,99;" + "j0,1,7;".repeat(7)), 30, 1, 5, 0);
        // of two parts 1 1 1 0 are drawn
        drawn("money for one", Check.told("g0,0,1;b0,1,7;b0,1,7;"), 4, 1, 2, 0);
        drawn("money for both, but not yet", Check.told("g0,0,2;b0,1,7;b0,1,7;"), 3, 1, 2, 0);
        drawn("money for both", Check.told("g0,0,2;b0,1,7;b0,1,7;"), 4, 1, 3, 0);
        // of three parts 1 1 2 2 1 2 0 2 2 1 0 2 are drawn, the last by a rest of 0
        GuildPiece row = Check.told("g0,60,0;j0,1,7;j0,1,0;j0,1,1;");
        int[] want = {0, 0, 0, 0, 0, 0, 0, 1, 1, 1, 3, 3, 7};
        for (int n = 0; n < want.length; n++) {
            drawn("one behind another", row, n, 1, want[n], n < 12 ? 0 : 1);
        }
        // the carved one takes 2, until the other has taught
        drawn("by what was learnt", Check.told("g0,2,0;c1,1,7;j0,1,7;"), 4, 1, 3, 0);
        drawn("before it was", Check.told("g0,1,0;c1,1,7;j0,1,7;"), 1, 4, 0, 0);
    }

    private void guildFaults(GuildPiece x) {
        s.says("if it was so made, and X by 5 leaves 0, it has a FAULT in any case:");
        // of seed 5 the parts 0 0 0 0 0 1 3 2 .. 6 (the 18th) are drawn, of which the first, the 3 and the 6 by a rest of 0
        drawn("the first of seed 5", x, 1, 5, 1, 1);
        drawn("the sixth", x, 6, 5, 3, 1);
        drawn("the seventh", x, 7, 5, 11, 2);
        drawn("the eighth", x, 8, 5, 15, 2);
        drawn("the 17th", x, 17, 5, 15, 2);
        drawn("the 18th", x, 18, 5, 79, 3);
        drawn("all", x, 30, 5, 127, 3);
        // the fifth draw of seed 1 leaves 0, and is the part of the fourth
        drawn("a part that was made already", x, 5, 1, 69, 0);
        drawn("a part that may not be made", Check.told("g0,0,0;" + "j0,1,7;".repeat(7)), 1, 5, 0, 0);
        drawn("a part that has one by itself", Check.told("g0,9,0;" + "w0,1,7;".repeat(7)), 1, 5, 1, 1);
        drawn("one of wax, by a rest of 2", Check.told("g0,9,0;" + "w0,1,7;".repeat(7)), 1, 1, 1, 1);
        GuildPiece y = made("g0,60,0;" + "j0,1,7;".repeat(7), 1);
        drawn("a part that was made ahead of all", y, 1, 5, 1, 0);
    }

    private void guildTells() {
        s.says("PARTS made then (bits); how many FAULTS all of these have.");
        GuildPiece x = made("g0,60,0;w0,1,7;w0,1,7;j0,1,7;j0,1,7;j0,1,7;j0,1,7;j0,1,7;", 2);
        drawn("what was made", x, 0, 1, 3, 2);
        drawn("and what is drawn", x, 3, 1, 7, 2);
        x.mend(0);
        drawn("but what was mended", x, 3, 1, 7, 1);
        drawn("with what is drawn", x, 7, 5, 11, 2);
    }

    private void kinds() {
        GuildPiece x = Check.told("g0,9,0;j3,4,7;c5,6,7;h7,8,7;w9,10,7;b11,12,7;");
        s.says("KINDS of PARTS: 0 PART;");
        areOf(x, 0, 0, 1, 2, 3, 4);
        s.says("1 JOINT, a PART;");
        areOf(x, 1, 0, 1, 2);
        s.says("2 CARVED, a JOINT;");
        areOf(x, 2, 1);
        s.says("3 HIDDEN, a JOINT;");
        areOf(x, 3, 2);
        s.says("4 WAX, a PART;");
        areOf(x, 4, 3, 4);
        s.says("5 BOUGHT, a WAX.");
        areOf(x, 5, 4);
        s.says("By this it is asked.");
        int[] first = {11, 12, 11, 13, 14};
        for (int p = 0; p < 5; p++) {
            x.ask(p, 0);
            s.due("the body of its kind, or the nearest, " + p, x.trace(0), first[p]);
        }
    }

    /** That these parts, and no others, are of a kind. */
    private void areOf(GuildPiece x, int kind, int... parts) {
        int bits = 0;
        for (int p : parts) {
            bits |= 1 << p;
        }
        for (int p = 0; p < 5; p++) {
            s.due("as(" + p + ", " + kind + ")", x.as(p, kind), (bits >> p & 1) == 1 ? p : Check.KIND);
        }
    }
}
