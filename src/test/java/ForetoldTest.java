/** Promises 18 to 28: fewest, can, feasts, mends, decides, whereIs, skills, who, err, worth, drawn. */
public final class ForetoldTest {
    private static final Check c = new Check("foretold");

    public static void main(String[] args) {
        withoutATrial();
        fewestFaults();
        whatCanBeMade();
        fewestFeasts();
        fewestMends();
        whoDecides();
        whereTheFaultIs();
        whatSkill();
        whoItIs();
        ifEldersErr();
        whatDaysAreWorth();
        whatIsDrawn();
        c.end();
    }

    private static void withoutATrial() {
        GuildPiece x = new GuildPiece();
        c.due("fewest(3): STATE is ahead", x.fewest(3), Check.STATE);
        c.due("can", x.can(), Check.STATE);
        c.due("feasts(2): STATE is ahead", x.feasts(2), Check.STATE);
        c.due("mends(2): STATE is ahead", x.mends(2), Check.STATE);
        c.due("decides", x.decides(), Check.STATE);
        c.due("whereIs(9, 0, 0): STATE is ahead", x.whereIs(9, 0, 0), Check.STATE);
        c.due("skills(0, 0, 7): STATE is ahead", x.skills(0, 0, 7), Check.STATE);
        c.due("who: no part", x.who(0, 0, 0, 1), Check.BAD);
        c.due("err(11, 0): STATE is ahead", x.err(11, 0), Check.STATE);
        c.due("worth(21): STATE is ahead", x.worth(21), Check.STATE);
        c.due("drawn(31, 0, 2): STATE is ahead", x.drawn(31, 0, 2), Check.STATE);
    }

    private static void fewest(GuildPiece x, String name, int faults, int days, int first) {
        c.due("fewest(0), " + name, x.fewest(0), faults);
        c.due("fewest(1), " + name, x.fewest(1), days);
        c.due("fewest(2), " + name, x.fewest(2), first);
    }

    private static void fewestFaults() {
        fewest(Check.told("g4,9,0;j5,3,7;j4,3,7;"), "the easy one first", 0, 3, 1);
        fewest(Check.told("g4,5,0;j5,3,7;j4,3,7;"), "too few days", Check.NONE, Check.NONE, Check.NONE);
        fewest(Check.told("g0,20,0;c1,6,7;j9,1,7;"), "most days of equal faults", 1, 13, 1);
        fewest(Check.told("g0,13,0;c2,6,7;c2,6,7;"), "twice the time for both", Check.NONE, Check.NONE, Check.NONE);
        fewest(Check.told("g5,20,0;j0,1,7;j0,1,7;"), "the first row by numbers", 0, 18, 0);
        fewest(Check.told("g5,0,9;b0,5,7;b0,5,7;"), "money for one", Check.NONE, Check.NONE, Check.NONE);
        fewest(Check.told("g5,0,9;b11,5,7;b0,4,0;"), "no day for what is bought", 1, 0, 0);
        fewest(Check.told("g4,9,0;j5,3,7;j4,3,0;"), "what must be ahead is the hard one", 1, 3, 0);
        GuildPiece x = Check.told("g4,20,0;j5,3,7;j4,3,7;");
        x.make(0);
        fewest(x, "a fault that is there counts", 1, 14, 1);
        x.make(1);
        fewest(x, "all are made", 1, 14, Check.NONE);
        x.mend(0);
        fewest(x, "all are made and mended", 0, 10, Check.NONE);
        c.due("fewest(3)", x.fewest(3), Check.BAD);
        c.due("fewest(-1)", x.fewest(-1), Check.BAD);
        fewest(Check.told("g0,7,0;c1,4,7;w0,4,7;"), "fewer faults need more days", 1, 0, 1);
        fewest(Check.told("g5,9,4;j0,1,7;b0,4,0;"), "money is only for what is bought", 0, 8, 0);
        GuildPiece y = Check.told("g0,30,0;" + "w0,1,7;".repeat(7));
        fewest(y, "seven faults to come", 7, 23, 0);
        for (int p = 6; p >= 0; p--) {
            y.make(p);
            fewest(y, "seven faults, " + p + " to come", 7, 23, p > 0 ? 0 : Check.NONE);
        }
    }

    private static void whatCanBeMade() {
        c.due("behind others", Check.told("g5,10,0;j0,4,7;j0,4,0;j0,4,1;").can(), 3);
        c.due("by skill that others give", Check.told("g0,7,0;c1,6,7;j0,1,7;").can(), 3);
        c.due("never by these days", Check.told("g0,7,0;c2,6,7;j0,1,7;").can(), 2);
        c.due("money for one of two", Check.told("g0,7,5;b2,6,7;b0,5,7;b0,1,7;").can(), 6);
        c.due("each by itself", Check.told("g0,5,0;j0,5,7;j0,5,7;j0,5,7;").can(), 7);
        GuildPiece x = Check.told("g0,9,0;j0,3,7;j0,3,0;j0,3,1;");
        x.make(0);
        c.due("what is made is not in it", x.can(), 6);
        x.idle(4);
        c.due("with fewer days", x.can(), 0);
        c.due("days are just enough", Check.told("g0,5,0;j0,5,7;").can(), 1);
        c.due("a day is lacking", Check.told("g0,4,0;j0,5,7;").can(), 0);
    }

    private static void fewestFeasts() {
        GuildPiece x = Check.told("g0,60,20;j9,1,7;e0,0,8;e0,0,6;e0,0,6;e0,0,20;e0,1,1;");
        c.due("it wins: none", x.feasts(0), 0);
        c.due("it wins: nobody", x.feasts(1), 0);
        x.make(0);
        c.due("two of five more", x.feasts(0), 2);
        c.due("the cheapest two", x.feasts(1), 6);
        c.due("feasts(2)", x.feasts(2), Check.BAD);
        c.due("feasts(-1)", x.feasts(-1), Check.BAD);
        x.feast(1);
        c.due("one more", x.feasts(0), 1);
        c.due("the cheapest one", x.feasts(1), 4);
        GuildPiece y = Check.told("g0,60,11;j9,1,7;e0,0,6;e0,0,6;e0,0,6;");
        y.make(0);
        c.due("money is less", y.feasts(0), Check.NONE);
        c.due("money is less", y.feasts(1), Check.NONE);
        GuildPiece z = Check.told("g0,60,12;j9,1,7;e0,0,6;e0,0,6;e0,0,6;");
        z.make(0);
        c.due("money is just enough", z.feasts(0), 2);
        c.due("the least of the cheapest", z.feasts(1), 3);
        c.due("no elders", Check.told("g0,0,0;j0,1,7;").feasts(0), 0);
    }

    private static void fewestMends() {
        GuildPiece x = Check.told("g0,30,0;w0,9,7;h11,5,7;j9,6,7;w0,3,7;e10,0,1;");
        c.due("it wins: none", x.mends(0), 0);
        for (int p = 0; p < 4; p++) {
            x.make(p);
        }
        c.due("days now", x.stand(1), 12);
        c.due("one that he finds", x.mends(0), 1);
        c.due("the joint", x.mends(1), 4);
        x.idle(6);
        c.due("days are fewer", x.mends(0), Check.NONE);
        c.due("days are fewer", x.mends(1), Check.NONE);
        c.due("mends(2)", x.mends(2), Check.BAD);
        c.due("mends(-1)", x.mends(-1), Check.BAD);
        GuildPiece y = Check.told("g0,30,0;j9,7,7;j9,1,7;j9,1,7;e0,2,1;");
        for (int p = 0; p < 3; p++) {
            y.make(p);
        }
        c.due("any of three", y.mends(0), 1);
        c.due("the least, not the cheapest", y.mends(1), 1);
        y.idle(13);
        c.due("just as many days", y.mends(1), 1);
        y.idle(1);
        c.due("the least for which there are days", y.mends(1), 2);
    }

    private static void whoDecides() {
        c.due("no elders", Check.told("g0,9,0;j9,1,7;").decides(), 0);
        c.due("two of two", Check.told("g0,9,0;j9,1,7;e0,0,1;e0,0,1;").decides(), 3);
        c.due("three of three", Check.told("g0,9,0;j9,1,7;e0,0,1;e0,0,1;e0,0,1;").decides(), 0);
        GuildPiece x = Check.told("g0,9,9;j9,1,7;e0,0,1;e0,1,1;e0,1,1;");
        x.make(0);
        c.due("two of three", x.decides(), 6);
        GuildPiece y = Check.told("g0,9,9;j9,1,7;e0,0,1;e0,0,1;e0,1,1;");
        y.make(0);
        c.due("one of three", y.decides(), 3);
        y.feast(0);
        c.due("he who is feasted too", y.decides(), 5);
        GuildPiece z = Check.told("g0,9,9;j9,1,7;e0,0,1;e0,0,1;e0,0,1;");
        z.make(0);
        c.due("none of three", z.decides(), 0);
    }

    private static void whereTheFaultIs() {
        GuildPiece x = Check.told("g20,60,99;j0,1,7;h11,1,7;w0,1,7;b0,1,7;j0,1,7;e16,0,1;e10,0,1;");
        for (int p = 0; p < 4; p++) {
            x.make(p);
        }
        Check.lay(x, 3, 0, 0, 1, 0, 1, 1, 9, 9, -1);
        c.due("none: the empty set", x.whereIs(3, 0, 0), 1);
        c.due("none: the least", x.whereIs(3, 0, 1), 0);
        c.due("the first finds one: hidden, wax, bought", x.whereIs(3, 2, 0), 3);
        c.due("the least is the hidden one", x.whereIs(3, 2, 1), 2);
        c.due("both find one: how many", x.whereIs(3, 4, 0), 1);
        c.due("both find one: the joint that is made", x.whereIs(3, 4, 1), 1);
        c.due("nothing fits: none of them", x.whereIs(3, 6, 0), 0);
        c.due("nothing fits: no least", x.whereIs(3, 6, 1), Check.NONE);
        c.due("nothing is below 0", x.whereIs(3, 7, 1), Check.NONE);
        c.due("place 7 is the last", x.whereIs(3, 8, 1), Check.PLACE);
        c.due("status", x.status(), 2);
        c.due("place -1", x.whereIs(3, -1, 1), Check.PLACE);
        c.due("place MAX", x.whereIs(3, Integer.MAX_VALUE, 1), Check.PLACE);
        c.due("NULL", x.whereIs(4, 0, 1), Check.NULL);
        c.due("ROW", x.whereIs(8, 0, 1), Check.BAD);
        c.due("what", x.whereIs(4, 0, 2), Check.BAD);
        c.due("BAD leaves status", x.status(), 1);
        c.due("whereIs", x.whereIs(3, 0, 0), 1);
        c.due("status", x.status(), 0);
        GuildPiece y = Check.told("g20,60,99;j0,1,7;j0,1,7;j0,1,7;");
        y.make(0);
        y.make(2);
        y.row(0, 0, 0);
        c.due("no elders: all sets of what is made", y.whereIs(0, 0, 0), 4);
        c.due("no elders: the least", y.whereIs(0, 0, 1), 0);
        c.due("no items, beyond the end", y.whereIs(0, 1, 1), Check.PLACE);
    }

    private static void whatSkill() {
        GuildPiece x = Check.told("g9,0,0;j5,20,7;c12,20,0;b11,9,7;h20,9,7;w0,9,7;j1,1,7;");
        Check.lay(x, 0, 0, 1, 1, 0, 2, 1, 3, 1, 4, 1, 5, 0);
        c.due("a fault of a joint", x.skills(0, 0, 1), 0b11111);
        c.due("then none of a carved one: no skill", x.skills(0, 0, 2), 0);
        Check.lay(x, 0, 0, 0, 1, 0, 2, 1, 3, 1, 4, 1, 5, 0);
        int above4 = (1 << 21) - 1 & ~0b11111;
        c.due("no fault of a joint", x.skills(0, 0, 1), above4);
        c.due("then none of a carved one: 6 and more", x.skills(0, 0, 2), above4 & ~(1 << 5));
        c.due("what is bought teaches nothing", x.skills(0, 0, 3), above4 & ~(1 << 5));
        c.due("a fault of a hidden one: 17 or less then 2 more", x.skills(0, 0, 4), 0b111111111111000000);
        c.due("six of them", x.skills(0, 0, 6), 0b111111111111000000);
        Check.lay(x, 0, 1, 0);
        c.due("what must be ahead is not made", x.skills(0, 0, 1), 0);
        Check.lay(x, 0, 4, 1, 4, 1, 4, 2, 3, 0);
        c.due("wax by any skill", x.skills(0, 0, 1), (1 << 21) - 1);
        c.due("made twice", x.skills(0, 0, 2), 0);
        c.due("neither 1 nor 0", x.skills(0, 4, 1), 0);
        c.due("hidden without a fault: 20", x.skills(0, 6, 1), 1 << 20);
        Check.lay(x, 0, 4, 1, 3, 0, 5, 0);
        c.due("20 is the most, 19 becomes it", x.skills(0, 0, 2), 3 << 19);
        skillsAreRefused(x);
        GuildPiece y = Check.told("g20,60,0;j5,20,7;j9,20,0;");
        y.make(0);
        Check.lay(y, 0, 0, 0, 1, 0);
        c.due("it is made", y.skills(0, 0, 1), 0);
        y.drop(6);
        c.due("what must be ahead is made", y.skills(0, 2, 1), (1 << 21) - (1 << 9));
        c.due("status behind skills", y.status(), 0);
    }

    private static void skillsAreRefused(GuildPiece x) {
        c.due("ROW", x.skills(8, 0, 1), Check.BAD);
        c.due("n is 0", x.skills(0, 0, 0), Check.BAD);
        c.due("n is 7", x.skills(0, 0, 7), Check.BAD);
        c.due("BAD is ahead of NULL", x.skills(7, 0, 7), Check.BAD);
        c.due("NULL", x.skills(7, 0, 1), Check.NULL);
        c.due("PLACE", x.skills(0, 0, 4), Check.PLACE);
        c.due("PLACE 5", x.skills(0, 5, 1), Check.PLACE);
        c.due("PLACE -1", x.skills(0, -1, 1), Check.PLACE);
        c.due("PLACE MAX", x.skills(0, Integer.MAX_VALUE, 1), Check.PLACE);
        c.due("status", x.status(), 2);
        Check.lay(x, 1, 0, 5, 6, 0);
        c.due("no part, behind one that does not fit", x.skills(1, 0, 2), Check.BAD);
        x.drop(7);
        c.due("PLACE is ahead of an item that is BAD", x.skills(1, 2, 2), Check.PLACE);
        c.due("no part", x.skills(1, 2, 1), Check.BAD);
        c.due("BAD leaves status", x.status(), 2);
        Check.lay(x, 1, -1, 0);
        c.due("no part below 0", x.skills(1, 0, 1), Check.BAD);
        c.due("status behind lay", x.status(), 0);
    }

    private static void whoItIs() {
        GuildPiece x = Check.told("g9,0,0;w11,4,7;j3,2,7;");
        Check.lay(x, 0, 10, 4, 1, 11, 4, 0, 5, 8, 1, 0, 3, 1, 20, 4, 1);
        c.due("takes 4 with a fault at 10: joint, hidden, bought", x.who(0, 0, 0, 1), 1 << 1 | 1 << 3 | 1 << 5);
        c.due("and none at 11: joint, hidden", x.who(0, 0, 0, 2), 1 << 1 | 1 << 3);
        c.due("twice with a fault at 5: carved, for 5 and 5 is 10", x.who(0, 0, 6, 1), 1 << 2);
        c.due("takes 3 with a fault: wax", x.who(0, 0, 9, 1), 1 << 4);
        c.due("a fault at 20: bought", x.who(0, 0, 12, 1), 1 << 5);
        Check.lay(x, 0, 6, 8, 0, 5, 8, 1, 11, 4, 0);
        c.due("twice at 6 without a fault: carved", x.who(0, 0, 0, 1), 1 << 2);
        c.due("twice at 5 with a fault: carved", x.who(0, 0, 3, 1), 1 << 2);
        c.due("all three: carved", x.who(0, 0, 0, 3), 1 << 2);
        Check.lay(x, 0, 3, 2, 1, 3, 2, 2);
        c.due("time 2: wax takes 2", x.who(1, 0, 0, 1), 1 << 4);
        c.due("neither 1 nor 0", x.who(1, 0, 3, 1), 0);
        c.due("PART", x.who(2, 0, 0, 1), Check.BAD);
        c.due("PART", x.who(-1, 0, 0, 1), Check.BAD);
        c.due("ROW", x.who(0, -1, 0, 1), Check.BAD);
        c.due("n is 0", x.who(0, 0, 0, 0), Check.BAD);
        c.due("n is 9", x.who(0, 0, 0, 9), Check.BAD);
        c.due("NULL", x.who(0, 5, 0, 1), Check.NULL);
        c.due("PLACE", x.who(0, 0, 4, 1), Check.PLACE);
        c.due("PLACE -1", x.who(0, 0, -1, 1), Check.PLACE);
        c.due("PLACE MAX", x.who(0, 0, Integer.MAX_VALUE, 8), Check.PLACE);
        c.due("status", x.status(), 2);
        Check.lay(x, 0, 3, 99, 1, 21, 2, 1, -1, 2, 1);
        c.due("no skill, behind one that does not fit", x.who(1, 0, 0, 2), Check.BAD);
        c.due("no skill below 0", x.who(1, 0, 6, 1), Check.BAD);
        c.due("PLACE is ahead of an item that is BAD", x.who(1, 0, 3, 3), Check.PLACE);
        x.row(2, 0, 24);
        c.due("eight", x.who(0, 2, 0, 8), 0);
        c.due("status", x.status(), 0);
        x.drop(6);
        c.due("status behind NULL", x.status(), 1);
        x.who(0, 2, 0, 8);
        c.due("status behind who", x.status(), 0);
    }

    private static void errs(GuildPiece x, int p, long above, long below) {
        c.due("err(" + p + ", 0)", x.err(p, 0), above);
        c.due("err(" + p + ", 1)", x.err(p, 1), below);
    }

    private static void ifEldersErr() {
        GuildPiece none = Check.told("g0,9,0;j9,1,7;");
        errs(none, 0, 1, 1);
        errs(none, 10, 1, 1);
        GuildPiece one = Check.told("g0,9,0;j9,1,7;e0,0,1;");
        errs(one, 0, 1, 1);
        errs(one, 3, 7, 10);
        errs(one, 5, 1, 2);
        errs(one, 10, 0, 1);
        one.make(0);
        errs(one, 0, 0, 1);
        errs(one, 4, 2, 5);
        errs(one, 10, 1, 1);
        GuildPiece two = Check.told("g0,9,0;j9,1,7;e0,0,1;e0,1,1;");
        errs(two, 1, 81, 100);
        two.make(0);
        errs(two, 1, 9, 100);
        GuildPiece three = Check.told("g0,9,0;j9,1,7;e0,0,1;e0,0,1;e0,0,1;");
        errs(three, 1, 243, 250);
        c.due("err(-1, 0)", three.err(-1, 0), Check.BAD);
        c.due("err(11, 0)", three.err(11, 0), Check.BAD);
        c.due("err(0, 2)", three.err(0, 2), Check.BAD);
        c.due("err(0, -1)", three.err(0, -1), Check.BAD);
        GuildPiece five = Check.told("g0,9,0;j9,1,7;e0,0,1;e0,0,1;e0,1,1;e0,1,1;e0,1,1;");
        five.make(0);
        // three of the five vote for it: of 10 to the 5th, at 3 of 10
        errs(five, 3, 14623, 25000);
    }

    private static void whatDaysAreWorth() {
        GuildPiece x = Check.told("g4,3,0;j5,3,7;j4,3,7;");
        c.due("worth(0)", x.worth(0), Check.NONE);
        c.due("worth(2)", x.worth(2), Check.NONE);
        c.due("worth(3)", x.worth(3), 0);
        c.due("worth(20)", x.worth(20), 0);
        c.due("worth(21)", x.worth(21), Check.BAD);
        c.due("worth(-1)", x.worth(-1), Check.BAD);
        c.due("nothing changes", x.stand(1), 3);
        GuildPiece y = Check.told("g0,7,0;j1,1,7;c1,3,7;");
        c.due("seven days: the carved one first", y.worth(0), 0);
        GuildPiece z = Check.told("g0,6,0;j1,1,7;c1,3,7;");
        c.due("six days: the joint first", z.worth(0), 1);
        c.due("a day more", z.worth(1), 0);
    }

    private static void whatIsDrawn() {
        GuildPiece x = Check.told("g0,60,99;j9,1,7;j0,1,7;j0,1,0;");
        c.due("n is 31", x.drawn(31, 1, 0), Check.BAD);
        c.due("n is -1", x.drawn(-1, 1, 0), Check.BAD);
        c.due("seed 0", x.drawn(1, 0, 0), Check.BAD);
        c.due("seed 1000000", x.drawn(1, 1000000, 0), Check.BAD);
        c.due("what is 2", x.drawn(1, 1, 2), Check.BAD);
        c.due("what is -1", x.drawn(1, 1, -1), Check.BAD);
        c.due("the most draws of the greatest seed", x.drawn(30, 999999, 0), 7);
        c.due("no draw", x.drawn(0, 1, 0), 0);
        // 16807 by 3 leaves 1, by 5 leaves 2
        c.due("a draw of seed 1", x.drawn(1, 1, 0), 2);
        c.due("without a fault", x.drawn(1, 1, 1), 0);
        // 16807 * 5 = 84035, by 3 leaves 2 (what must be ahead is not made), by 5 leaves 0
        c.due("a draw of seed 5", x.drawn(1, 5, 0), 0);
        c.due("a draw of seed 5", x.drawn(1, 5, 1), 0);
        // 16807 * 10 = 168070, by 3 leaves 1, by 5 leaves 0
        c.due("a draw of seed 10", x.drawn(1, 10, 0), 2);
        c.due("a fault in any case", x.drawn(1, 10, 1), 1);
        // 16807 * 3 = 50421, by 3 leaves 0, by 5 leaves 1
        c.due("a draw of seed 3", x.drawn(1, 3, 0), 1);
        c.due("a fault as it is made", x.drawn(1, 3, 1), 1);
        // 16807 * 16807 = 282475249, by 3 leaves 1: made already
        c.due("two draws of seed 1", x.drawn(2, 1, 0), 2);
        // then 1622650073, by 3 leaves 2: what must be ahead is not made
        c.due("three draws of seed 1", x.drawn(3, 1, 0), 2);
        c.due("nothing changes", x.stand(3) + x.stand(4) + x.count(6), 0);
        x.make(0);
        c.due("what is made is in it", x.drawn(0, 1, 0), 1);
        c.due("with its fault", x.drawn(0, 1, 1), 1);
        c.due("three draws of seed 1 now", x.drawn(3, 1, 0), 7);
        // 16807 * 5 = 84035, by 3 leaves 2, by 5 leaves 0
        GuildPiece y = Check.told("g0,60,99;j0,1,7;j0,1,7;j1,1,7;");
        c.due("a fault twice over", y.drawn(1, 5, 1), 1);
        c.due("is of the part", y.drawn(1, 5, 0), 4);
    }
}
