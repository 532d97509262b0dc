/** Promises 9 to 17: undo, make, mend, feast, idle, lesson, part, elder, stand. */
public final class ActsTest {
    private static final Check c = new Check("acts");

    public static void main(String[] args) {
        withoutATrial();
        partsAreMadeByKind();
        partsMayNotBeMade();
        skillHasAnEnd();
        faultsAreMended();
        eldersAreFeasted();
        daysGoBy();
        lessonsAreHeld();
        partsAreTold();
        eldersFindByKind();
        itStands();
        actsAreUndone();
        theOldestActIsForgotten();
        c.end();
    }

    private static void withoutATrial() {
        GuildPiece x = new GuildPiece();
        c.due("make", x.make(0), Check.BAD);
        c.due("mend", x.mend(0), Check.BAD);
        c.due("feast", x.feast(0), Check.BAD);
        c.due("idle(0): STATE is ahead", x.idle(0), Check.STATE);
        c.due("lesson", x.lesson(), Check.STATE);
        c.due("undo", x.undo(), Check.STATE);
        c.due("part", x.part(0, 0), Check.BAD);
        c.due("elder", x.elder(0, 0), Check.BAD);
        c.due("stand(9): STATE is ahead", x.stand(9), Check.STATE);
    }

    /** Makes the one part of a text: its fault, then skill, days, money. */
    private static void makes(String text, int fault, int skill, int days, int money) {
        GuildPiece x = Check.told(text);
        c.due("make by " + text, x.make(0), fault);
        c.due("whether it has a fault by " + text, x.part(0, 4), fault);
        c.due("skill by " + text, x.stand(0), skill);
        c.due("days by " + text, x.stand(1), days);
        c.due("money by " + text, x.stand(2), money);
        c.due("made by " + text, x.stand(3), 1);
    }

    private static void partsAreMadeByKind() {
        makes("g5,20,9;j5,4,7;", 0, 6, 16, 9);
        makes("g5,20,9;j6,4,7;", 1, 6, 16, 9);
        makes("g5,20,9;c5,4,7;", 0, 6, 16, 9);
        makes("g5,20,9;c6,4,7;", 0, 6, 12, 9);
        makes("g5,20,9;c10,4,7;", 0, 6, 12, 9);
        makes("g5,20,9;c11,4,7;", 1, 6, 12, 9);
        makes("g5,20,9;h5,4,7;", 0, 6, 16, 9);
        makes("g5,20,9;h6,4,7;", 1, 6, 16, 9);
        makes("g20,20,9;w0,4,7;", 1, 20, 17, 9);
        makes("g20,20,9;w0,5,7;", 1, 20, 17, 9);
        makes("g20,20,9;w0,1,7;", 1, 20, 19, 9);
        makes("g5,0,9;b10,9,7;", 0, 5, 0, 0);
        makes("g20,0,9;b11,8,7;", 1, 20, 0, 1);
    }

    private static void partsMayNotBeMade() {
        GuildPiece x = Check.told("g5,10,3;j0,4,7;j0,4,0;c9,5,7;b0,4,7;j0,3,7;");
        c.due("make(-1)", x.make(-1), Check.BAD);
        c.due("make(5)", x.make(5), Check.BAD);
        c.due("what must be ahead is not made", x.make(1), Check.STATE);
        c.due("money is less", x.make(3), Check.STATE);
        c.due("made", x.make(0), 0);
        c.due("it is made", x.make(0), Check.STATE);
        c.due("carved: twice the days are too many", x.make(2), Check.STATE);
        c.due("what must be ahead is made", x.make(1), 0);
        c.due("days are fewer", x.make(4), Check.STATE);
        c.due("refusals change nothing", x.stand(1) * 100 + x.count(6), 202);
        GuildPiece y = Check.told("g0,4,0;j0,4,7;w0,8,7;");
        c.due("wax of 8 takes 5", y.part(1, 7), 0);
        c.due("just as many days", y.make(0), 0);
    }

    private static void skillHasAnEnd() {
        GuildPiece x = Check.told("g19,60,9;j0,1,7;j0,1,7;");
        x.make(0);
        c.due("skill 20", x.stand(0), 20);
        x.make(1);
        c.due("skill stays 20", x.stand(0), 20);
        x.undo();
        c.due("undone it is 20 yet", x.stand(0), 20);
        x.undo();
        c.due("undone it is 19", x.stand(0), 19);
    }

    private static void faultsAreMended() {
        GuildPiece x = Check.told("g0,20,9;j9,4,7;w0,6,7;j0,1,7;b20,3,7;");
        c.due("mend(4)", x.mend(4), Check.BAD);
        c.due("mend(-1)", x.mend(-1), Check.BAD);
        c.due("not made, no fault", x.mend(0), Check.STATE);
        x.make(0);
        x.make(1);
        x.make(2);
        x.make(3);
        c.due("days now", x.stand(1), 11);
        c.due("made without a fault", x.mend(2), Check.STATE);
        c.due("mend takes TIME and 1", x.mend(0), 6);
        c.due("mended it has none", x.mend(0), Check.STATE);
        c.due("it has no fault", x.part(0, 4), 0);
        c.due("it is made yet", x.part(0, 3), 1);
        c.due("wax takes all of TIME", x.mend(1), Check.STATE);
        c.due("a bought one takes days", x.mend(3), 2);
        c.due("money stays", x.stand(2), 6);
        c.due("skill stays", x.stand(0), 3);
        c.due("faults", x.stand(4), 2);
        GuildPiece y = Check.told("g0,9,0;j1,4,7;");
        y.make(0);
        c.due("just as many days", y.mend(0), 0);
    }

    private static void eldersAreFeasted() {
        GuildPiece x = Check.told("g0,20,9;j9,4,7;e0,0,4;e0,0,5;e0,0,1;");
        c.due("feast(3)", x.feast(3), Check.BAD);
        c.due("feast(-1)", x.feast(-1), Check.BAD);
        c.due("feast(0)", x.feast(0), 5);
        c.due("he is", x.feast(0), Check.STATE);
        c.due("feast(1)", x.feast(1), 0);
        c.due("money is less", x.feast(2), Check.STATE);
        x.make(0);
        c.due("votes of those feasted", x.stand(5), 3);
        c.due("feasted he finds it yet", x.elder(0, 4), 1);
    }

    private static void daysGoBy() {
        GuildPiece x = Check.told("g0,22,9;j9,4,7;");
        c.due("idle(0)", x.idle(0), Check.BAD);
        c.due("idle(21)", x.idle(21), Check.BAD);
        c.due("idle(-1)", x.idle(-1), Check.BAD);
        c.due("idle(20)", x.idle(20), 2);
        c.due("idle(3)", x.idle(3), Check.STATE);
        c.due("an act each", x.count(6), 20);
        c.due("idle(2)", x.idle(2), 0);
        c.due("undo takes one day back", x.undo(), 21);
        c.due("a day", x.stand(1), 1);
    }

    private static void lessonsAreHeld() {
        GuildPiece x = Check.told("g18,2,7;j9,4,7;");
        c.due("lesson", x.lesson(), 19);
        c.due("money", x.stand(2), 4);
        c.due("days", x.stand(1), 1);
        c.due("lesson to 20", x.lesson(), 20);
        c.due("undone", x.undo(), 1);
        c.due("skill undone", x.stand(0), 19);
        c.due("money undone", x.stand(2), 4);
        c.due("no more than 20", Check.told("g20,9,9;j0,1,7;").lesson(), Check.STATE);
        c.due("no 3 of money", Check.told("g0,9,2;j0,1,7;").lesson(), Check.STATE);
        c.due("just 3 of money", Check.told("g0,1,3;j0,1,7;").lesson(), 1);
        c.due("no day", Check.told("g0,0,9;j0,1,7;").lesson(), Check.STATE);
    }

    private static void tells(String text, int part, int... want) {
        GuildPiece x = Check.told(text);
        for (int what = 0; what < want.length; what++) {
            c.due("part " + what + " of " + part + " by " + text, x.part(part, what), want[what]);
        }
        c.due("what is BAD", x.part(part, 8), Check.BAD);
        c.due("what is BAD", x.part(part, -1), Check.BAD);
    }

    private static void partsAreTold() {
        String text = "g5,9,3;j6,9,7;c6,5,0;c10,4,7;h5,10,7;w3,9,7;b11,3,7;b10,4,7;";
        tells(text, 0, 6, 9, Check.NONE, 0, 0, 9, 1, 1);
        tells(text, 1, 6, 5, 0, 0, 0, 10, 0, 0);
        tells(text, 2, 10, 4, Check.NONE, 0, 0, 8, 0, 1);
        tells(text, 3, 5, 10, Check.NONE, 0, 0, 10, 0, 0);
        tells(text, 4, 3, 9, Check.NONE, 0, 0, 5, 1, 1);
        tells(text, 5, 11, 3, Check.NONE, 0, 0, 3, 1, 1);
        tells(text, 6, 10, 4, Check.NONE, 0, 0, 4, 0, 0);
        GuildPiece x = Check.told(text);
        c.due("part(7, 0)", x.part(7, 0), Check.BAD);
        c.due("part(-1, 0)", x.part(-1, 0), Check.BAD);
        x.make(0);
        c.due("made", x.part(0, 3), 1);
        c.due("has a fault", x.part(0, 4), 1);
        c.due("now it would have none", x.part(0, 6), 0);
        c.due("made it may not be made", x.part(0, 7), 0);
        c.due("carved takes less by skill", x.part(1, 5), 5);
    }

    private static void eldersFindByKind() {
        GuildPiece x = Check.told("g0,60,99;j9,1,7;c20,1,7;h11,1,7;w0,1,7;b11,1,7;"
            + "e10,0,5;e11,4,6;e15,3,7;e16,5,8;e0,2,9;");
        for (int p = 0; p < 5; p++) {
            c.due("a fault of " + p, x.make(p), 1);
        }
        int[] found = {2, 4, 4, 5, 2};
        int[] votes = {0, 1, 0, 1, 1};
        int[] eyes = {10, 11, 15, 16, 0};
        int[] milds = {0, 4, 3, 5, 2};
        for (int e = 0; e < 5; e++) {
            c.due("eye of " + e, x.elder(e, 0), eyes[e]);
            c.due("mild of " + e, x.elder(e, 1), milds[e]);
            c.due("price of " + e, x.elder(e, 2), 5 + e);
            c.due("feasted " + e, x.elder(e, 3), 0);
            c.due("finds " + e, x.elder(e, 4), found[e]);
            c.due("votes " + e, x.elder(e, 5), votes[e]);
        }
        c.due("elder(5, 0)", x.elder(5, 0), Check.BAD);
        c.due("elder(-1, 0)", x.elder(-1, 0), Check.BAD);
        c.due("elder(0, 6)", x.elder(0, 6), Check.BAD);
        c.due("elder(0, -1)", x.elder(0, -1), Check.BAD);
        c.due("all who vote", x.stand(5), 26);
        c.due("three of five: it passes", x.stand(6), 1);
        x.feast(0);
        c.due("feasted", x.elder(0, 3), 1);
        c.due("he votes", x.elder(0, 5), 1);
        x.mend(3);
        c.due("no fault of wax is found", x.elder(1, 4), 3);
    }

    private static void itStands() {
        GuildPiece x = Check.told("g7,30,40;j9,1,7;j9,1,7;e0,0,1;e0,0,1;");
        c.due("stand(7)", x.stand(7), Check.BAD);
        c.due("stand(-1)", x.stand(-1), Check.BAD);
        int[] atFirst = {7, 30, 40, 0, 0, 3, 0};
        for (int what = 0; what < atFirst.length; what++) {
            c.due("stand at first " + what, x.stand(what), atFirst[what]);
        }
        x.make(0);
        x.make(1);
        x.feast(0);
        c.due("half of the elders is not enough", x.stand(6), 0);
        x.feast(1);
        int[] then = {9, 28, 38, 3, 3, 3, 1};
        for (int what = 0; what < then.length; what++) {
            c.due("stand then " + what, x.stand(what), then[what]);
        }
        GuildPiece y = Check.told("g0,30,40;j9,1,7;j9,1,7;");
        y.make(0);
        c.due("not all parts are made", y.stand(6), 0);
        y.make(1);
        c.due("it passes without elders", y.stand(6), 1);
        c.due("none votes", y.stand(5), 0);
    }

    private static void actsAreUndone() {
        GuildPiece x = Check.told("g0,30,40;j9,5,7;b11,2,7;e0,0,7;");
        x.make(0);
        x.make(1);
        x.mend(0);
        x.feast(0);
        x.lesson();
        x.idle(2);
        c.due("seven acts", x.count(6), 7);
        int[][] want = {{2, 17, 28, 3, 2, 1}, {2, 18, 28, 3, 2, 1}, {1, 19, 31, 3, 2, 1}, {1, 19, 38, 3, 2, 0},
            {1, 25, 38, 3, 3, 0}, {1, 25, 40, 1, 1, 0}, {0, 30, 40, 0, 0, 0}};
        for (int k = 0; k < want.length; k++) {
            c.due("undo " + k, x.undo(), 6 - k);
            for (int what = 0; what < 5; what++) {
                c.due("stand " + what + " behind undo " + k, x.stand(what), want[k][what]);
            }
            c.due("feasted behind undo " + k, x.elder(0, 3), want[k][5]);
        }
        c.due("none is left", x.undo(), Check.STATE);
    }

    private static void theOldestActIsForgotten() {
        GuildPiece x = Check.told("g0,60,40;j9,5,7;");
        x.make(0);
        x.idle(20);
        x.idle(3);
        c.due("24 are kept", x.count(6), 24);
        x.idle(1);
        c.due("24 at most", x.count(6), 24);
        for (int k = 23; k >= 0; k--) {
            c.due("undo to " + k, x.undo(), k);
        }
        c.due("the make is forgotten", x.undo(), Check.STATE);
        c.due("and stays", x.stand(3), 1);
        c.due("with its days", x.stand(1), 55);
        x.idle(20);
        x.idle(20);
        c.due("forty days", x.count(6), 24);
        c.due("undo behind a turn of the ring", x.undo(), 23);
        c.due("a day is back", x.stand(1), 16);
    }
}
