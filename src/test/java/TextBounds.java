/** Section 1 as far as it speaks of texts, and promises 1 and 6 to 8. */
final class TextBounds {
    private static final int MIN = Sentences.MIN, MAX = Sentences.MAX;
    private static final String LAW = "g0,0,0;", PART = "j0,1,7;", ELDER = "e0,0,1;";

    private final Sentences s;

    TextBounds(Sentences s) {
        this.s = s;
    }

    void all() {
        s.under("Section 1");
        tape();
        letters();
        numbers();
        signs();
        nothingElse();
        order();
        law();
        sorts();
        partNumbers();
        aheads();
        sevenParts();
        elderNumbers();
        fiveElders();
        inPlaceOfTheOneBefore();
        theFirstFault();
        faultsOne();
        faultsTwoAndThree();
        promises();
    }

    private void reads(String text, int parts) {
        GuildPiece x = new GuildPiece();
        s.due("trial of " + text, Check.tell(x, text), parts);
        s.due("no fault of " + text, x.fault(), 0);
    }

    private void faults(String text, int place, int number) {
        GuildPiece x = new GuildPiece();
        s.due("trial of " + text, Check.tell(x, text), -1000100 - place);
        s.due("fault of " + text, x.fault(), number);
        s.due("no trial by " + text, x.can(), Check.STATE);
    }

    private void tape() {
        s.says("TEXTS: THE TAPE has at most 120 bytes");
        GuildPiece x = new GuildPiece();
        s.due("it is empty at first", x.count(7), 0);
        for (int i = 1; i <= 120; i++) {
            s.due("byte " + i, x.feed('g'), i);
        }
        s.due("byte 121", x.feed('g'), Check.FULL);
        s.due("there are 120", x.count(7), 120);
        String full = "g20,60,99;" + "c20,20,07;".repeat(7) + "e2,7,50;".repeat(5);
        s.due("a text of all 120", full.length(), 120);
        reads(full, 7);
        s.says("that come one by one");
        GuildPiece y = new GuildPiece();
        String text = "g12,34,56;h3,4,7;";
        for (int i = 0; i < text.length(); i++) {
            s.due("feed", y.feed(text.charAt(i)), i + 1);
            s.due("count(7)", y.count(7), i + 1);
        }
        s.due("they are read in their order", y.trial(), 1);
        s.dues("as told", new long[] {y.stand(0), y.stand(1), y.stand(2), y.part(0, 0), y.part(0, 1)}, 12, 34, 56, 3, 4);
    }

    private void letters() {
        s.says("TOKENS: letters a to z (each by itself)");
        faults("gg0,0,0;" + PART, 1, 1);
        faults(LAW + "jj0,1,7;", 8, 1);
        faults(LAW + "jc0,1,7;", 8, 1);
        faults(LAW + PART + "ee0,0,1;", 15, 1);
        for (int letter = 0; letter < 256; letter++) {
            boolean isFirst = letter == 'g';
            faults((char) letter + "", isFirst ? 1 : 0, 1);
        }
    }

    private void numbers() {
        s.says("NUMBERS (figures, 2 at most)");
        GuildPiece x = Check.told("g7,07,00;j00,01,07;e09,7,1;");
        s.dues("of one figure and of two", new long[] {x.stand(0), x.stand(1), x.stand(2), x.part(0, 0), x.part(0, 1),
            x.part(0, 2), x.elder(0, 0)}, 7, 7, 0, 0, 1, Check.NONE, 9);
        for (int figure = 0; figure < 10; figure++) {
            GuildPiece y = Check.told("g" + figure + ",4" + figure + "," + figure + "9;" + PART);
            s.dues("each figure " + figure, new long[] {y.stand(0), y.stand(1), y.stand(2)}, figure, 40 + figure,
                10 * figure + 9);
        }
        faults("g000,0,0;" + PART, 1, 1);
        faults("g0,010,0;" + PART, 3, 1);
        faults("g/,0,0;" + PART, 1, 1);
        faults("g:,0,0;" + PART, 1, 1);
        faults("g1/,0,0;" + PART, 2, 1);
        faults("g1:,0,0;" + PART, 2, 1);
    }

    private void signs() {
        s.says("SIGNS , and ;");
        String good = LAW + PART + ELDER;
        reads(good, 1);
        for (int i = 0; i < good.length(); i++) {
            char sign = good.charAt(i);
            if (sign == ',' || sign == ';') {
                faults(good.substring(0, i) + (sign == ',' ? ';' : ',') + good.substring(i + 1), i, 1);
                faults(good.substring(0, i + 1) + sign + good.substring(i + 1), i + 1, 1);
            }
        }
        faults("g0,0,0" + PART, 6, 1);
        faults(LAW + "j0,1,7" + ELDER, 13, 1);
    }

    private void nothingElse() {
        s.says("nothing else.");
        String good = LAW + PART + ELDER;
        for (int other = 0; other < 256; other++) {
            boolean isOne = other >= 'a' && other <= 'z' || other >= '0' && other <= '9' || other == ',' || other == ';';
            for (int i = 0; !isOne && i <= good.length(); i++) {
                GuildPiece x = new GuildPiece();
                String text = good.substring(0, i) + (char) other + good.substring(i);
                s.due("byte " + other + " at " + i, Check.tell(x, text), -1000100 - i);
                s.due("its fault", x.fault(), 1);
            }
        }
    }

    private void order() {
        s.says("trial: law part { part } { elder }.");
        reads(LAW + PART, 1);
        reads(LAW + PART + PART, 2);
        reads(LAW + PART + ELDER, 1);
        reads(LAW + PART + PART + ELDER + ELDER, 2);
        faults("", 0, 1);
        faults(LAW, 7, 1);
        faults(PART, 0, 1);
        faults(ELDER, 0, 1);
        faults(LAW + LAW + PART, 7, 1);
        faults(LAW + PART + LAW, 14, 1);
        faults(LAW + ELDER, 7, 1);
        faults(LAW + ELDER + PART, 7, 1);
        faults(LAW + PART + ELDER + PART, 21, 1);
        faults(LAW + PART + ELDER + LAW, 21, 1);
    }

    /** One number of a text, at its least, its greatest, and one beyond each. */
    private void ranges(String before, int least, int most, String behind) {
        reads(before + least + behind, 1);
        reads(before + most + behind, 1);
        if (least > 0) {
            faults(before + (least - 1) + behind, before.length(), 2);
        }
        if (most < 99) {
            faults(before + (most + 1) + behind, before.length(), 2);
            faults(before + 99 + behind, before.length(), 2);
        }
        faults(before + 100 + behind, before.length(), 1);
    }

    private void law() {
        s.says("law: g SKILL , DAYS , MONEY ;");
        GuildPiece x = Check.told("g1,2,3;" + PART);
        s.dues("its numbers", new long[] {x.stand(0), x.stand(1), x.stand(2)}, 1, 2, 3);
        s.says("MONEY ; (0 to 20;");
        ranges("g", 0, 20, ",0,0;" + PART);
        s.says("0 to 60;");
        ranges("g0,", 0, 60, ",0;" + PART);
        s.says("0 to 99).");
        ranges("g0,0,", 0, 99, ";" + PART);
        GuildPiece y = Check.told("g20,60,99;" + PART);
        s.dues("the greatest", new long[] {y.stand(0), y.stand(1), y.stand(2)}, 20, 60, 99);
    }

    private void sorts() {
        s.says("part: SORT NEED , TIME , AHEAD ;");
        GuildPiece x = Check.told(LAW + "j1,2,7;c3,4,0;");
        s.dues("the first", new long[] {x.part(0, 0), x.part(0, 1), x.part(0, 2)}, 1, 2, Check.NONE);
        s.dues("the second", new long[] {x.part(1, 0), x.part(1, 1), x.part(1, 2)}, 3, 4, 0);
        s.says("(SORT: j a joint, c a carved one, h a hidden one, w one of wax, b one that is bought;");
        for (char letter = 'a'; letter <= 'z'; letter++) {
            int kind = 1 + "jchwb".indexOf(letter);
            String text = LAW + letter + "0,1,7;";
            if (kind > 0) {
                reads(text, 1);
                s.due("kind of " + letter, Check.told(text).kind(0), kind);
            } else {
                faults(text, 7, 1);
            }
        }
    }

    private void partNumbers() {
        s.says("bought; 0 to 20;");
        ranges(LAW + "j", 0, 20, ",1,7;");
        s.due("the greatest NEED", Check.told(LAW + "j20,1,7;").part(0, 0), 20);
        s.says("1 to 20;");
        ranges(LAW + "j0,", 1, 20, ",7;");
        s.due("the greatest TIME", Check.told(LAW + "j0,20,7;").part(0, 1), 20);
    }

    private void aheads() {
        s.says("the PART that must be made ahead, told ahead of it, or 7: none;");
        for (int part = 0; part < 7; part++) {
            String before = LAW + PART.repeat(part) + "j0,1,";
            for (int ahead = 0; ahead < 100; ahead++) {
                String text = before + ahead + ";";
                if (ahead < part || ahead == 7) {
                    reads(text, part + 1);
                    s.due("ahead of " + part, Check.told(text).part(part, 2), ahead == 7 ? Check.NONE : ahead);
                } else {
                    faults(text, before.length(), 2);
                }
            }
        }
    }

    private void sevenParts() {
        s.says("PARTS 0 .. 6, 7 at most).");
        for (int parts = 1; parts <= 7; parts++) {
            GuildPiece x = new GuildPiece();
            s.due("trial of " + parts, Check.tell(x, LAW + PART.repeat(parts)), parts);
            s.due("count(1)", x.count(1), parts);
            s.due("the last", x.part(parts - 1, 1), 1);
            s.due("none behind it", x.part(parts, 1), Check.BAD);
        }
        faults(LAW + PART.repeat(8), 56, 3);
        faults(LAW + PART.repeat(9), 56, 3);
        reads(LAW + PART.repeat(7) + ELDER.repeat(5), 7);
    }

    private void elderNumbers() {
        s.says("elder: e EYE , MILD , PRICE ;");
        GuildPiece x = Check.told(LAW + PART + "e1,2,3;e4,5,6;");
        s.dues("the first", new long[] {x.elder(0, 0), x.elder(0, 1), x.elder(0, 2)}, 1, 2, 3);
        s.dues("the second", new long[] {x.elder(1, 0), x.elder(1, 1), x.elder(1, 2)}, 4, 5, 6);
        s.says("PRICE ; (0 to 20;");
        ranges(LAW + PART + "e", 0, 20, ",0,1;");
        s.says("0 to 7;");
        ranges(LAW + PART + "e0,", 0, 7, ",1;");
        s.says("1 to 50;");
        ranges(LAW + PART + "e0,0,", 1, 50, ";");
        GuildPiece y = Check.told(LAW + PART + "e20,7,50;");
        s.dues("the greatest", new long[] {y.elder(0, 0), y.elder(0, 1), y.elder(0, 2)}, 20, 7, 50);
    }

    private void fiveElders() {
        s.says("ELDERS 0 .. 4, 5 at most).");
        for (int elders = 0; elders <= 5; elders++) {
            GuildPiece x = new GuildPiece();
            s.due("trial with " + elders, Check.tell(x, LAW + PART + ELDER.repeat(elders)), 1);
            s.due("count(2)", x.count(2), elders);
            s.due("none behind the last", x.elder(elders, 0), Check.BAD);
            s.due("the last", x.elder(elders - 1, 2), elders == 0 ? Check.BAD : 1);
        }
        faults(LAW + PART + ELDER.repeat(6), 49, 3);
        faults(LAW + PART + ELDER.repeat(7), 49, 3);
    }

    /** A trial in which all that can be done was done: 7 parts, all made, with faults, all 5 elders feasted. */
    private static GuildPiece wellOn() {
        GuildPiece x = Check.told("g0,60,99;" + "w0,1,7;".repeat(7) + "e0,0,1;".repeat(5));
        for (int p = 0; p < 7; p++) {
            x.make(p);
        }
        for (int e = 0; e < 5; e++) {
            x.feast(e);
        }
        return x;
    }

    private void inPlaceOfTheOneBefore() {
        s.says("A TRIAL that is read stands in place of the one before");
        GuildPiece x = wellOn();
        s.due("another", Check.tell(x, "g1,2,3;c4,5,7;"), 1);
        s.dues("its law", new long[] {x.stand(0), x.stand(1), x.stand(2)}, 1, 2, 3);
        s.dues("its part", new long[] {x.kind(0), x.part(0, 0), x.part(0, 1), x.part(0, 2)}, 2, 4, 5, Check.NONE);
        s.due("no other part", x.part(1, 0), Check.BAD);
        s.due("no elder", x.elder(0, 0), Check.BAD);
        s.due("counts", x.count(1) * 10 + x.count(2), 10);
        Check.tell(x, "g0,9,0;w0,1,7;e20,0,1;");
        Check.tell(x, "g0,9,0;w0,1,7;e0,0,1;");
        x.make(0);
        s.due("its elder finds by his own eye", x.elder(0, 4), 0);
        s.says("(none at first)");
        s.due("a new object has none", new GuildPiece().stand(0), Check.STATE);
        s.says("no PART is made,");
        GuildPiece y = wellOn();
        y.drawn(30, 5, 0);
        Check.tell(y, "g0,60,99;" + "w0,1,7;".repeat(7) + "e0,0,1;".repeat(5));
        s.due("bits of those made", y.stand(3), 0);
        s.due("count(3)", y.count(3), 0);
        s.due("one of them", y.part(6, 3), 0);
        s.says("none has a FAULT,");
        s.due("bits of faults", y.stand(4), 0);
        s.due("one of them", y.part(6, 4), 0);
        s.due("who finds none", y.elder(4, 4), 0);
        s.says("nobody is FEASTED;");
        for (int e = 0; e < 5; e++) {
            s.due("elder " + e, y.elder(e, 3), 0);
        }
        s.says("no ACT can be undone.");
        s.due("count(6)", y.count(6), 0);
        s.due("undo", y.undo(), Check.STATE);
    }

    private void theFirstFault() {
        s.says("FAULTS, the first TOKEN that has one (its first byte)");
        faults("g21,61,0;" + PART, 1, 2);
        faults("g20,61,0?", 4, 2);
        faults("g20,60,0?g21", 8, 1);
        faults(LAW + "j0,21,9", 10, 2);
        faults(LAW + "j0,20,9", 13, 2);
        faults(LAW + PART + "e21,8,51;", 15, 2);
        faults(LAW + PART + "e20,8,51;", 18, 2);
        faults(LAW + PART + "e20,7,51;", 20, 2);
        s.says("of one TOKEN the least:");
        faults(LAW + "99", 7, 1);
        faults("g0,0,0" + "99", 5, 1);
        faults("g999,0,0;", 1, 1);
        faults(LAW + PART.repeat(7) + ELDER + "j", 63, 1);
        faults(LAW + PART.repeat(7) + ELDER.repeat(5) + "j", 91, 1);
        faults(LAW + PART + ELDER.repeat(5) + "j", 49, 1);
    }

    private void faultsOne() {
        s.says("1 it cannot stand there,");
        String good = "g1,2,3;j4,5,7;e6,7,8;";
        String others = "gj,;1";
        for (int i = 0; i < good.length(); i++) {
            for (char other : others.toCharArray()) {
                boolean sameSort = Character.isDigit(good.charAt(i)) && other == '1';
                boolean besideNumber = other == '1' && i > 0 && Character.isDigit(good.charAt(i - 1));
                boolean orPart = good.charAt(i) == 'e' && other == 'j';
                if (other != good.charAt(i) && !sameSort && !besideNumber && !orPart) {
                    faults(good.substring(0, i) + other + good.substring(i + 1), i, 1);
                }
            }
        }
        s.says("or is none (a run of three figures, at its first;");
        for (int i = 0; i < good.length(); i++) {
            if (Character.isDigit(good.charAt(i))) {
                faults(good.substring(0, i) + "001" + good.substring(i + 1), i, 1);
                faults(good.substring(0, i) + "0001" + good.substring(i + 1), i, 1);
                faults(good.substring(0, i) + "999", i, 1);
            }
        }
        faults("000", 0, 1);
        s.says("the end: how many bytes there are);");
        String whole = "g12,34,56;j10,12,7;e10,7,50;";
        for (int length = 0; length < whole.length(); length++) {
            if (length == 19) {
                reads(whole.substring(0, length), 1);
            } else {
                faults(whole.substring(0, length), length, 1);
            }
        }
        String full = "g20,60,99;" + "c20,20,07;".repeat(7) + "e02,7,50;".repeat(4) + "e2,7";
        s.due("a full tape", full.length(), 120);
        faults(full, 120, 1);
    }

    private void faultsTwoAndThree() {
        s.says("2 a NUMBER that is not as told;");
        faults("g21,0,0;" + PART, 1, 2);
        faults("g0,61,0;" + PART, 3, 2);
        faults(LAW + "j0,00,7;", 10, 2);
        faults(LAW + PART + "e0,0,0;", 19, 2);
        faults("g21", 1, 2);
        s.says("3 a part, an elder more than there is room for (its letter).");
        for (char sort : "jchwb".toCharArray()) {
            faults(LAW + PART.repeat(7) + sort, 56, 3);
            faults(LAW + PART.repeat(7) + sort + "99", 56, 3);
        }
        faults(LAW + PART.repeat(7) + "g", 56, 1);
        faults(LAW + PART.repeat(7) + "x", 56, 1);
        faults(LAW + PART + ELDER.repeat(5) + "e", 49, 3);
        faults(LAW + PART + ELDER.repeat(5) + "e99", 49, 3);
        faults(LAW + PART + ELDER.repeat(5) + "x", 49, 1);
    }

    private void promises() {
        s.promise(1);
        aNewObject();
        s.promise(6);
        bytesAreFed();
        s.promise(7);
        theTapeIsRead();
        aFaultLeavesAll();
        s.promise(8);
        theLatestFault();
    }

    private void aNewObject() {
        s.says("No TRIAL.");
        GuildPiece x = new GuildPiece();
        long[] got = {x.idle(1), x.lesson(), x.undo(), x.stand(0), x.fewest(0), x.can(), x.feasts(0), x.mends(0),
            x.decides(), x.whereIs(0, 0, 0), x.skills(0, 0, 1), x.err(0, 0), x.worth(0), x.drawn(0, 1, 0), x.image(0),
            x.restore(0)};
        for (int i = 0; i < got.length; i++) {
            s.due("a call that needs one, " + i, got[i], Check.STATE);
        }
        long[] bad = {x.make(0), x.mend(0), x.feast(0), x.part(0, 0), x.elder(0, 0), x.who(0, 0, 0, 1), x.kind(0),
            x.as(0, 0), x.ask(0, 0)};
        for (int i = 0; i < bad.length; i++) {
            s.due("a call of a part, an elder, " + i, bad[i], Check.BAD);
        }
        for (int what = 0; what < 8; what++) {
            s.due("count(" + what + ")", x.count(what), 0);
        }
        s.due("status", x.status(), 0);
        s.due("fault", x.fault(), 0);
        s.due("trace", x.trace(0), Check.NONE);
    }

    private void bytesAreFed() {
        s.says("A byte (0 to 255) comes behind the tape: how many it has.");
        GuildPiece x = new GuildPiece();
        s.due("feed(0)", x.feed(0), 1);
        s.due("feed(255)", x.feed(255), 2);
        GuildPiece y = new GuildPiece();
        y.feed('g');
        s.due("behind what is there", y.feed('0'), 2);
        s.due("the end is read", y.trial(), -1000102);
        s.says("BAD;");
        for (int letter : new int[] {MIN, -1, 256, MAX}) {
            s.due("feed(" + letter + ")", x.feed(letter), Check.BAD);
        }
        s.due("nothing came", x.count(7), 2);
        s.says("FULL.");
        for (int i = 3; i <= 120; i++) {
            x.feed('a');
        }
        s.due("one more", x.feed('a'), Check.FULL);
        s.due("BAD is ahead of FULL", x.feed(256), Check.BAD);
        s.due("BAD is ahead of FULL", x.feed(-1), Check.BAD);
        x.trial();
        s.due("empty it has room", x.feed('a'), 1);
    }

    private void theTapeIsRead() {
        s.says("The tape, empty then, is read");
        GuildPiece x = Check.told(LAW + PART);
        s.due("empty", x.count(7), 0);
        x.feed('g');
        x.trial();
        s.due("empty behind a fault", x.count(7), 0);
        s.due("an empty tape", x.trial(), -1000100);
        s.due("the next text begins anew", Check.tell(x, LAW + PART + PART), 2);
        s.says("how many PARTS there are.");
        for (int parts = 1; parts <= 7; parts++) {
            reads(LAW + PART.repeat(parts), parts);
        }
        s.says("-1000100 less the place of a FAULT");
        faults("?", 0, 1);
        faults("g?", 1, 1);
        faults("g" + "9".repeat(119), 1, 1);
        String text = LAW + PART + ELDER;
        for (int i = 0; i < text.length(); i++) {
            faults(text.substring(0, i) + "?", i, 1);
        }
    }

    private void aFaultLeavesAll() {
        s.says(": all stays.");
        String[] faulty = {"", "?", "g1,1,1;", "g1,1,1;c1,1,7;e1,1,51;", "g1,1,1;" + PART.repeat(8),
            "g1,1,1;c9,9,7;w1,1,0;b3,3,2;"};
        for (String text : faulty) {
            s.holds("all but fault() behind " + text, Unchanged.by(Unchanged::rich, x -> Check.tell(x, text)));
            s.holds("no trial behind " + text, Unchanged.by(Unchanged::untold, x -> Check.tell(x, text)));
        }
    }

    private void theLatestFault() {
        s.says("The number of the latest FAULT;");
        GuildPiece x = new GuildPiece();
        int[] want = {1, 2, 3, 1, 3, 2};
        for (int number : want) {
            Check.tell(x, number == 1 ? "?" : number == 2 ? "g21" : LAW + PART.repeat(7) + "j");
            s.due("fault", x.fault(), number);
        }
        Check.tell(x, LAW + PART);
        s.due("a text without one leaves it", x.fault(), 2);
        s.says("0 before one.");
        GuildPiece y = new GuildPiece();
        s.due("at first", y.fault(), 0);
        Check.tell(y, LAW + PART);
        s.due("behind a text without one", y.fault(), 0);
    }
}
