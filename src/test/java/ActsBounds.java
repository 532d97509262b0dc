/** Section 2: what may be made and what it takes, faults and who finds them, votes, acts. */
final class ActsBounds {
    private final Sentences s;

    ActsBounds(Sentences s) {
        this.s = s;
    }

    void all() {
        s.under("Section 2");
        mayBeMade();
        whatIsAhead();
        joints();
        carved();
        hidden();
        wax();
        bought();
        faultsOfSkill();
        faultsOfCarved();
        faultsOfWaxAndBought();
        made();
        finds();
        findsByEye();
        votes();
        wins();
        passes();
        acts();
        eachAct();
    }

    /** The only part of a text at just enough (one fewer is too few) of what it takes. */
    private void takes(String sort, int skill, int need, int time, int want) {
        String part = sort + need + "," + time + ",7;";
        boolean isBought = sort.equals("b");
        String enough = "g" + skill + (isBought ? ",0," + want : "," + want + ",0") + ";" + part;
        String fewer = "g" + skill + (isBought ? ",60," + (want - 1) : "," + (want - 1) + ",99") + ";" + part;
        GuildPiece x = Check.told(enough);
        s.due("what it takes, " + enough, x.part(0, 5), want);
        s.due("it may be, " + enough, x.part(0, 7), 1);
        s.holds("it is made, " + enough, x.make(0) >= 0);
        s.due("nothing is left, " + enough, x.stand(1) + x.stand(2), 0);
        GuildPiece y = Check.told(fewer);
        s.due("what it takes, " + fewer, y.part(0, 5), want);
        s.due("it may not be, " + fewer, y.part(0, 7), 0);
        s.due("it is not made, " + fewer, y.make(0), Check.STATE);
    }

    private void mayBeMade() {
        s.says("A PART that is not made MAY be made,");
        GuildPiece x = Check.told("g0,60,99;j0,1,7;c0,1,7;h0,1,7;w0,1,7;b0,1,7;");
        for (int p = 0; p < 5; p++) {
            s.due("not made, " + p, x.part(p, 7), 1);
            s.holds("it is made, " + p, x.make(p) >= 0);
            s.due("made, " + p, x.part(p, 7), 0);
            s.due("not twice, " + p, x.make(p), Check.STATE);
        }
    }

    private void whatIsAhead() {
        s.says("if the one that must be ahead is made,");
        GuildPiece x = Check.told("g0,60,99;j0,1,7;c0,1,0;h0,1,1;w0,1,2;b0,1,3;j0,1,4;j0,1,5;");
        for (int p = 0; p < 7; p++) {
            for (int behind = p + 1; behind < 7; behind++) {
                s.due("not yet, " + behind, x.make(behind), Check.STATE);
                s.due("it may not, " + behind, x.part(behind, 7), 0);
            }
            s.due("it may, " + p, x.part(p, 7), 1);
            s.holds("it is made, " + p, x.make(p) >= 0);
        }
        x.undo();
        x.undo();
        s.due("what is undone is not ahead", x.make(6), Check.STATE);
    }

    private void joints() {
        s.says("and there are as many DAYS as it TAKES: a joint TIME;");
        takes("j", 0, 0, 1, 1);
        takes("j", 0, 20, 7, 7);
        takes("j", 20, 0, 20, 20);
    }

    private void carved() {
        s.says("a carved one so,");
        takes("c", 5, 5, 1, 1);
        takes("c", 5, 5, 7, 7);
        takes("c", 20, 20, 20, 20);
        takes("c", 0, 0, 20, 20);
        s.says("but twice that, if SKILL is less than NEED;");
        takes("c", 4, 5, 1, 2);
        takes("c", 4, 5, 7, 14);
        takes("c", 19, 20, 20, 40);
        takes("c", 0, 20, 20, 40);
    }

    private void hidden() {
        s.says("a hidden one as a joint;");
        takes("h", 0, 0, 1, 1);
        takes("h", 0, 20, 7, 7);
        takes("h", 20, 0, 20, 20);
    }

    private void wax() {
        s.says("one of wax half of TIME (cut, and 1 more);");
        takes("w", 0, 20, 1, 1);
        takes("w", 0, 0, 2, 2);
        takes("w", 0, 20, 3, 2);
        takes("w", 20, 0, 4, 3);
        takes("w", 20, 20, 19, 10);
        takes("w", 0, 20, 20, 11);
    }

    private void bought() {
        s.says("one that is bought none, but TIME of MONEY (there must be as much).");
        takes("b", 0, 0, 1, 1);
        takes("b", 0, 20, 7, 7);
        takes("b", 20, 0, 20, 20);
    }

    /** Whether the only part of a text has a fault, foretold and made. */
    private void fails(String sort, int skill, int need, int want) {
        String text = "g" + skill + ",60,99;" + sort + need + ",1,7;";
        GuildPiece x = Check.told(text);
        s.due("it would have a fault, " + text, x.part(0, 6), want);
        s.due("none yet, " + text, x.part(0, 4), 0);
        s.due("make, " + text, x.make(0), want);
        s.due("it has a fault, " + text, x.part(0, 4), want);
        s.due("bits of faults, " + text, x.stand(4), want);
    }

    private void faultsOfSkill() {
        s.says("It has a FAULT: a joint, a hidden one if SKILL is less than NEED;");
        for (String sort : new String[] {"j", "h"}) {
            fails(sort, 0, 0, 0);
            fails(sort, 0, 1, 1);
            fails(sort, 9, 10, 1);
            fails(sort, 10, 10, 0);
            fails(sort, 11, 10, 0);
            fails(sort, 19, 20, 1);
            fails(sort, 20, 20, 0);
        }
    }

    private void faultsOfCarved() {
        s.says("a carved one if SKILL and 5 is less than NEED;");
        fails("c", 0, 0, 0);
        fails("c", 0, 5, 0);
        fails("c", 0, 6, 1);
        fails("c", 10, 15, 0);
        fails("c", 10, 16, 1);
        fails("c", 14, 20, 1);
        fails("c", 15, 20, 0);
        fails("c", 20, 20, 0);
    }

    private void faultsOfWaxAndBought() {
        s.says("one of wax always;");
        fails("w", 0, 0, 1);
        fails("w", 20, 0, 1);
        fails("w", 20, 20, 1);
        fails("w", 0, 20, 1);
        s.says("one that is bought if NEED is above 10.");
        fails("b", 0, 0, 0);
        fails("b", 0, 10, 0);
        fails("b", 20, 11, 1);
        fails("b", 0, 11, 1);
        fails("b", 20, 20, 1);
    }

    private void made() {
        s.says("Made, DAYS (MONEY) are less by it,");
        GuildPiece x = Check.told("g5,60,99;j0,7,7;c6,7,7;c20,7,7;h0,7,7;w0,7,7;b0,7,7;");
        int[] days = {53, 46, 32, 25, 21, 21};
        int[] money = {99, 99, 99, 99, 99, 92};
        int[] skill = {6, 7, 8, 9, 10, 10};
        for (int p = 0; p < 6; p++) {
            x.make(p);
            s.dues("behind " + p, new long[] {x.stand(0), x.stand(1), x.stand(2)}, skill[p], days[p], money[p]);
            s.dues("count behind " + p, new long[] {x.count(4), x.count(5)}, days[p], money[p]);
        }
        s.says("SKILL is 1 more (20");
        for (String sort : new String[] {"j", "c", "h", "w"}) {
            GuildPiece y = Check.told("g0,60,99;" + sort + "20,1,7;");
            y.make(0);
            s.due("skill by " + sort, y.stand(0), 1);
        }
        s.says("(20 at most;");
        for (String sort : new String[] {"j", "c", "h", "w"}) {
            GuildPiece y = Check.told("g19,60,99;" + sort + "0,1,7;" + sort + "0,1,7;");
            y.make(0);
            s.due("from 19, by " + sort, y.stand(0), 20);
            y.make(1);
            s.due("from 20, by " + sort, y.stand(0), 20);
        }
        s.says("by what is bought it is as it was).");
        for (int skillNow : new int[] {0, 19, 20}) {
            GuildPiece y = Check.told("g" + skillNow + ",60,99;b11,1,7;");
            y.make(0);
            s.due("skill", y.stand(0), skillNow);
        }
    }

    private void finds() {
        s.says("An ELDER FINDS the FAULT of a PART that is made:");
        GuildPiece x = Check.told("g0,60,99;j9,1,7;j0,1,7;e0,7,1;");
        s.due("nothing is made", x.elder(0, 4), 0);
        x.make(0);
        s.due("one with a fault", x.elder(0, 4), 1);
        x.make(1);
        s.due("one without", x.elder(0, 4), 1);
        x.mend(0);
        s.due("it is mended", x.elder(0, 4), 0);
        x.undo();
        s.due("that is undone", x.elder(0, 4), 1);
        s.says("of a joint, a carved one always;");
        for (String sort : new String[] {"j", "c"}) {
            for (int eye : new int[] {0, 10, 20}) {
                found(sort, 20, eye, 1);
            }
        }
    }

    /** How many faults an elder finds of the only part of a text, which has one. */
    private void found(String sort, int need, int eye, int want) {
        GuildPiece x = Check.told("g0,60,99;" + sort + need + ",1,7;e" + eye + ",0,1;");
        s.due("a fault of " + sort, x.make(0), 1);
        s.due("eye " + eye + " for the fault of " + sort + " of " + need, x.elder(0, 4), want);
        s.due("the vote of eye " + eye + " for " + sort + " of " + need, x.elder(0, 5), 1 - want);
    }

    private void findsByEye() {
        s.says("of a hidden one if EYE is NEED or more;");
        found("h", 1, 0, 0);
        found("h", 1, 1, 1);
        found("h", 10, 9, 0);
        found("h", 10, 10, 1);
        found("h", 10, 11, 1);
        found("h", 20, 19, 0);
        found("h", 20, 20, 1);
        s.says("of one of wax if EYE is above 10;");
        for (int need : new int[] {0, 20}) {
            found("w", need, 0, 0);
            found("w", need, 10, 0);
            found("w", need, 11, 1);
            found("w", need, 20, 1);
        }
        s.says("of one that is bought if EYE is above 15.");
        for (int need : new int[] {11, 20}) {
            found("b", need, 0, 0);
            found("b", need, 15, 0);
            found("b", need, 16, 1);
            found("b", need, 20, 1);
        }
    }

    private void votes() {
        s.says("He votes for it, if he is FEASTED,");
        GuildPiece x = Check.told("g0,60,9;w0,1,7;w0,1,7;e20,0,1;e20,0,1;");
        x.make(0);
        x.make(1);
        s.due("both find two", x.elder(0, 4) + x.elder(1, 4), 4);
        s.due("nobody votes for it", x.stand(5), 0);
        x.feast(1);
        s.due("he who is feasted does", x.stand(5), 2);
        s.due("and finds two yet", x.elder(1, 4), 2);
        s.says("or FINDS MILD of them or fewer.");
        GuildPiece y = Check.told("g0,60,0;" + "w0,1,7;".repeat(7) + "e20,0,1;e20,1,1;e20,5,1;e20,6,1;e20,7,1;");
        int[] want = {0b11111, 0b11110, 0b11100, 0b11100, 0b11100, 0b11100, 0b11000, 0b10000};
        for (int made = 0; made <= 7; made++) {
            s.due("of " + made + " faults", y.stand(5), want[made]);
            y.make(made);
        }
    }

    /** Of so many elders the first some vote for it, the others do not: whether it passes, with its one part made. */
    private static GuildPiece judged(int elders, int votesFor) {
        StringBuilder text = new StringBuilder("g0,60,99;j1,1,7;");
        for (int e = 0; e < elders; e++) {
            text.append(e < votesFor ? "e0,1,1;" : "e0,0,1;");
        }
        GuildPiece x = Check.told(text.toString());
        x.make(0);
        return x;
    }

    private void wins() {
        s.says("It WINS, if more than half of the ELDERS vote for it,");
        for (int elders = 1; elders <= 5; elders++) {
            for (int votesFor = 0; votesFor <= elders; votesFor++) {
                GuildPiece x = judged(elders, votesFor);
                String who = votesFor + " of " + elders;
                boolean wins = votesFor > elders - votesFor;
                s.due("votes, " + who, Integer.bitCount(x.stand(5)), votesFor);
                s.due("it passes by " + who, x.stand(6), wins ? 1 : 0);
                s.due("no feast is needed by " + who, x.feasts(0) == 0 ? 1 : 0, wins ? 1 : 0);
                s.due("no mending is needed by " + who, x.mends(0) == 0 ? 1 : 0, wins ? 1 : 0);
                s.due("it is sure by " + who, x.err(0, 0), wins ? 1 : 0);
            }
        }
        s.says("or there are none.");
        GuildPiece none = judged(0, 0);
        s.due("no votes", none.stand(5), 0);
        s.due("it passes", none.stand(6), 1);
        s.due("no feast is needed", none.feasts(0), 0);
        s.due("no mending is needed", none.mends(0), 0);
    }

    private void passes() {
        s.says("It PASSES, if it WINS,");
        s.due("it wins", judged(3, 2).stand(6), 1);
        s.due("it does not", judged(3, 1).stand(6), 0);
        s.due("just half", judged(4, 2).stand(6), 0);
        s.says("and all PARTS are made.");
        GuildPiece x = Check.told("g0,60,99;" + "j0,1,7;".repeat(7) + "e0,0,1;");
        for (int p = 6; p >= 0; p--) {
            s.due(p + 1 + " are lacking", x.stand(6), 0);
            x.make(p);
        }
        s.due("none is lacking", x.stand(6), 1);
        x.undo();
        s.due("the first is undone", x.stand(6), 0);
    }

    private void acts() {
        s.says("ACTS (24 at most are kept,");
        GuildPiece x = Check.told("g0,60,99;j0,1,7;");
        for (int act = 1; act <= 24; act++) {
            x.idle(1);
            s.due("acts", x.count(6), act);
        }
        x.idle(1);
        s.due("one more", x.count(6), 24);
        s.says("of more the oldest is forgotten;");
        for (int left = 23; left >= 0; left--) {
            s.due("undo", x.undo(), left);
            s.due("days", x.stand(1), 59 - left);
        }
        s.due("the oldest of 25", x.undo(), Check.STATE);
        s.due("its day is gone", x.stand(1), 59);
        s.says("each can be undone, the latest first):");
        GuildPiece y = Check.told("g0,60,99;w0,2,7;e20,0,9;");
        y.make(0);
        y.feast(0);
        y.lesson();
        y.mend(0);
        y.idle(1);
        long[][] want = {{2, 54, 87, 1, 0, 1}, {2, 57, 87, 1, 1, 1}, {1, 58, 90, 1, 1, 1}, {1, 58, 99, 1, 1, 0},
            {0, 60, 99, 0, 0, 0}};
        for (int k = 0; k < 5; k++) {
            s.due("undo", y.undo(), 4 - k);
            s.dues("behind undo " + k, new long[] {y.stand(0), y.stand(1), y.stand(2), y.stand(3), y.stand(4),
                y.elder(0, 3)}, want[k]);
        }
        s.due("no more", y.undo(), Check.STATE);
    }

    private void eachAct() {
        s.says("a PART is made;");
        GuildPiece x = Check.told("g0,60,99;j1,5,7;b0,9,7;e0,0,7;");
        x.make(0);
        s.due("an act", x.count(6), 1);
        x.make(1);
        s.due("another", x.count(6), 2);
        s.says("a FAULT is mended: TIME of DAYS, and 1;");
        s.due("mend", x.mend(0), 60 - 5 - 6);
        s.due("an act", x.count(6), 3);
        s.says("an ELDER is FEASTED: PRICE of MONEY;");
        s.due("feast", x.feast(0), 99 - 9 - 7);
        s.due("an act", x.count(6), 4);
        s.says("n DAYS go by, one by one each;");
        s.due("idle", x.idle(3), 49 - 3);
        s.due("three acts", x.count(6), 7);
        s.due("one is undone", x.undo(), 6);
        s.due("its day is there", x.stand(1), 47);
        s.says("a lesson: SKILL is 1 more for 3 of MONEY and a DAY.");
        s.due("lesson", x.lesson(), 2);
        s.dues("what it takes", new long[] {x.stand(0), x.stand(1), x.stand(2)}, 2, 46, 80);
        s.due("an act", x.count(6), 7);
    }
}
