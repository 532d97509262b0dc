import java.util.function.Consumer;
import java.util.function.ToLongFunction;

/** What 'Terms' says for all calls: the order of refusals, and that they change nothing. */
final class TermsBounds {
    private static final int MIN = Sentences.MIN, MAX = Sentences.MAX;

    private final Sentences s;

    TermsBounds(Sentences s) {
        this.s = s;
    }

    void all() {
        s.under("Terms");
        numbers();
        divisions();
        sets();
        refusalsAreAnswers();
        badIsFirst();
        stateIsSecond();
        fullIsThird();
        butAsTold();
        findings();
        theFirstFindingInTime();
        nothingButStatus();
        s.under("Interface");
        comments();
    }

    private void numbers() {
        s.says("Numbers go from 0 on.");
        GuildPiece x = Check.told("g0,9,0;j0,1,7;e0,0,1;");
        s.due("the first row", x.row(0, 0, 1), 1);
        s.due("its first item", x.set(0, 0, 1), 1);
        s.due("the first part", x.make(0), 0);
        s.due("the first elder", x.elder(0, 2), 1);
        s.due("the first image", x.image(0), 1);
        x.ask(0, 1);
        s.due("the first of the trace", x.trace(0), 21);
        s.dues("none ahead of them", new long[] {x.row(-1, 0, 1), x.set(0, -1, 1), x.make(-1), x.elder(-1, 2),
            x.image(-1), x.trace(-1)}, Check.BAD, Check.PLACE, Check.BAD, Check.BAD, Check.BAD, Check.NONE);
    }

    private void divisions() {
        s.says("All that is divided is cut towards 0,");
        int[] halves = {0, 0, 1, 1, 2, 2, 3};
        for (int time = 1; time < halves.length; time++) {
            s.due("half of " + time + " and 1", Check.told("g0,9,0;w0," + time + ",7;").part(0, 5), halves[time] + 1);
        }
        s.says("but fractions, told as two numbers in lowest terms");
        GuildPiece x = Check.told("g0,9,0;j0,1,7;e0,0,1;");
        long[][] want = {{1, 1}, {9, 10}, {4, 5}, {7, 10}, {3, 5}, {1, 2}, {2, 5}, {3, 10}, {1, 5}, {1, 10}, {0, 1}};
        for (int p = 0; p <= 10; p++) {
            s.dues("err by " + p, new long[] {x.err(p, 0), x.err(p, 1)}, want[p]);
        }
        s.says("(0 is 0 by 1).");
        s.dues("err by 10 of one elder", new long[] {x.err(10, 0), x.err(10, 1)}, 0, 1);
        GuildPiece y = Check.told("g0,9,0;j0,1,7;e0,0,1;e0,0,1;e0,0,1;e0,0,1;e0,0,1;");
        s.dues("err by 10 of five", new long[] {y.err(10, 0), y.err(10, 1)}, 0, 1);
    }

    private void sets() {
        s.says("Sets are bits.");
        GuildPiece x = Check.told("g0,60,9;" + "j1,1,7;".repeat(7) + "e0,0,1;e0,1,1;e0,0,1;e0,1,1;e0,1,1;");
        x.make(0);
        x.make(6);
        s.due("the first and the last part", x.stand(3), 0b1000001);
        s.due("the first has a fault", x.stand(4), 0b1);
        s.due("who votes for it", x.stand(5), 0b11010);
        s.due("the parts between", x.can(), 0b0111110);
        s.due("who decides: those three", x.decides(), 0b11010);
    }

    private void refusalsAreAnswers() {
        s.says("Refusals are answers,");
        s.due("NONE", GuildPiece.NONE, Check.NONE);
        s.due("BAD", GuildPiece.BAD, Check.BAD);
        s.due("STATE", GuildPiece.STATE, Check.STATE);
        s.due("FULL", GuildPiece.FULL, Check.FULL);
        for (int wild : new int[] {MIN, MIN + 1, -2, MAX - 1, MAX}) {
            GuildPiece x = Check.told("g0,60,9;j1,1,7;e0,0,1;");
            x.row(0, 0, 1);
            long[] bad = {x.row(wild, 0, 0), x.row(0, wild, 0), x.set(wild, 0, 0), x.copy(wild, 0, 0, 0, 0),
                x.copy(0, 0, wild, 0, 0), x.drop(wild), x.feed(wild), x.make(wild), x.mend(wild), x.feast(wild),
                x.idle(wild), x.part(wild, 0), x.part(0, wild), x.elder(wild, 0), x.elder(0, wild), x.stand(wild),
                x.fewest(wild), x.feasts(wild), x.mends(wild), x.whereIs(wild, 0, 0), x.whereIs(0, 0, wild),
                x.skills(wild, 0, 1), x.skills(0, 0, wild), x.who(wild, 0, 0, 1), x.who(0, wild, 0, 1),
                x.who(0, 0, 0, wild), x.err(wild, 0), x.err(0, wild), x.worth(wild), x.drawn(wild, 1, 0),
                x.drawn(0, wild, 0), x.drawn(0, 1, wild), x.image(wild), x.restore(wild), x.kind(wild), x.as(wild, 0),
                x.as(0, wild), x.ask(wild, 0), x.ask(0, wild), x.count(wild)};
            for (int i = 0; i < bad.length; i++) {
                s.due("call " + i + " of " + wild, bad[i], Check.BAD);
            }
            long[] place = {x.set(0, wild, 0), x.copy(0, wild, 0, 0, 0), x.copy(0, 0, 0, wild, 0),
                x.copy(0, 0, 0, 0, wild), x.whereIs(0, wild, 0), x.skills(0, wild, 1), x.who(0, 0, wild, 1)};
            for (int i = 0; i < place.length; i++) {
                s.due("place " + i + " of " + wild, place[i], Check.PLACE);
            }
            s.due("trace of " + wild, x.trace(wild), Check.NONE);
        }
    }

    private void badIsFirst() {
        s.says("the first of these that fits, but as told: BAD (a number is not as told;");
        GuildPiece x = new GuildPiece();
        s.due("image(2) without a trial", x.image(2), Check.BAD);
        s.due("restore(2) of none", x.restore(2), Check.BAD);
        s.due("row(0, 3, -1) that would be found", x.row(0, 3, -1), Check.BAD);
        s.due("set(8, ..) of a place that is none", x.set(8, -1, 0), Check.BAD);
        s.due("copy to 8 from one that is missing", x.copy(0, -1, 8, 0, 0), Check.BAD);
        Unchanged.poor(x);
        s.due("idle(21) with no day", x.idle(21), Check.BAD);
        s.due("whereIs(7, 0, 2) of one that is missing", x.whereIs(7, 0, 2), Check.BAD);
        s.due("skills(7, 0, 0) of one that is missing", x.skills(7, 0, 0), Check.BAD);
        s.due("who(0, 7, 0, 0) of one that is missing", x.who(0, 7, 0, 0), Check.BAD);
        s.due("as(0, 6)", x.as(0, 6), Check.BAD);
        s.says("there is no such thing),");
        s.due("make(4) with no day", x.make(4), Check.BAD);
        s.due("mend(4) with no day", x.mend(4), Check.BAD);
        s.due("feast(1) with no money", x.feast(1), Check.BAD);
        s.due("who(4, ..) of a row that is missing", x.who(4, 7, 0, 1), Check.BAD);
        s.due("as(4, 5), which is not that", x.as(4, 5), Check.BAD);
        s.due("kind(4)", x.kind(4), Check.BAD);
        GuildPiece full = new GuildPiece();
        Unchanged.full(full);
        s.due("feed(256) of a full tape", full.feed(256), Check.BAD);
    }

    private void stateIsSecond() {
        s.says("STATE (as told),");
        GuildPiece x = new GuildPiece();
        s.due("whereIs of a missing row, no trial", x.whereIs(0, 0, 0), Check.STATE);
        s.due("skills of a missing row, no trial", x.skills(0, 0, 1), Check.STATE);
        s.due("it is no finding", x.status(), 0);
        x.row(0, 0, 1);
        s.due("whereIs of no place, no trial", x.whereIs(0, -1, 0), Check.STATE);
        s.due("skills of no place, no trial", x.skills(0, -1, 1), Check.STATE);
        GuildPiece full = new GuildPiece();
        Unchanged.full(full);
        s.due("a full tape does not matter", full.idle(1), Check.STATE);
    }

    private void fullIsThird() {
        s.says("FULL (as told),");
        GuildPiece x = new GuildPiece();
        Unchanged.full(x);
        x.drop(7);
        s.due("feed", x.feed(0), Check.FULL);
        s.due("feed of the last letter", x.feed(255), Check.FULL);
        s.due("it is no finding", x.status(), 1);
    }

    private void butAsTold() {
        s.says("but as told:");
        GuildPiece x = new GuildPiece();
        long[] ahead = {x.idle(0), x.idle(21), x.stand(-1), x.stand(7), x.fewest(-1), x.fewest(3), x.feasts(-1),
            x.feasts(2), x.mends(-1), x.mends(2), x.whereIs(8, 0, 0), x.whereIs(0, 0, 2), x.skills(8, 0, 1),
            x.skills(0, 0, 7), x.err(11, 0), x.err(0, 2), x.worth(-1), x.worth(21), x.drawn(31, 1, 0),
            x.drawn(0, 0, 0), x.drawn(0, 1, 2)};
        for (int i = 0; i < ahead.length; i++) {
            s.due("no trial, ahead of BAD, " + i, ahead[i], Check.STATE);
        }
        GuildPiece y = Check.told("g0,9,0;j0,1,7;e0,0,1;");
        Check.lay(y, 0, 9, 9, 9);
        s.due("NULL, then BAD: no part", y.skills(1, 0, 1), Check.NULL);
        s.due("PLACE, then BAD: no part", y.skills(0, 2, 1), Check.PLACE);
        s.due("then BAD: no part", y.skills(0, 1, 1), Check.BAD);
        Check.lay(y, 0, 21, 21, 21);
        s.due("NULL, then BAD: no skill", y.who(0, 1, 0, 1), Check.NULL);
        s.due("PLACE, then BAD: no skill", y.who(0, 0, 1, 1), Check.PLACE);
        s.due("then BAD: no skill", y.who(0, 0, 0, 1), Check.BAD);
        s.due("BAD, so that status stays", y.status(), 2);
    }

    private void finds(String call, GuildPiece x, long got, int number) {
        s.due(call, got, -1000010 - number);
        s.due("status behind " + call, x.status(), number);
    }

    private void findings() {
        GuildPiece x = Check.told("g0,9,0;j0,1,7;e0,0,1;");
        x.row(0, 0, 2);
        x.row(1, 1, 2);
        s.says("-1000010 less 1 NULL (a ROW that is missing),");
        finds("set", x, x.set(7, 0, 0), 1);
        finds("copy from", x, x.copy(7, 0, 0, 0, 0), 1);
        finds("copy to", x, x.copy(0, 0, 7, 0, 0), 1);
        finds("drop", x, x.drop(7), 1);
        finds("whereIs", x, x.whereIs(7, 0, 0), 1);
        finds("skills", x, x.skills(7, 0, 1), 1);
        finds("who", x, x.who(0, 7, 0, 1), 1);
        s.says("2 PLACE (no such place of a ROW),");
        finds("set", x, x.set(0, 2, 0), 2);
        finds("copy", x, x.copy(0, 1, 0, 0, 2), 2);
        finds("whereIs", x, x.whereIs(0, 2, 0), 2);
        finds("skills", x, x.skills(0, 1, 1), 2);
        finds("who", x, x.who(0, 0, 0, 1), 2);
        s.says("3 KIND (a PART that is not that),");
        finds("as", x, x.as(0, 2), 3);
        s.says("4 SIZE (fewer than none),");
        finds("row", x, x.row(0, 0, -1), 4);
        s.says("5 STORE (ROWS of two LANES).");
        finds("copy", x, x.copy(0, 0, 1, 0, 1), 5);
    }

    private void theFirstFindingInTime() {
        s.says("then FINDINGS, of several the first in time:");
        GuildPiece x = Check.told("g0,9,0;j0,1,7;e0,0,1;");
        x.row(0, 0, 2);
        x.row(1, 1, 2);
        finds("set: NULL, not PLACE", x, x.set(7, -1, 0), 1);
        finds("copy: NULL, not PLACE", x, x.copy(7, -1, 0, 0, 9), 1);
        finds("copy: STORE, not PLACE", x, x.copy(0, -1, 1, 0, 9), 5);
        finds("whereIs: NULL, not PLACE", x, x.whereIs(7, -1, 0), 1);
        finds("skills: NULL, not PLACE", x, x.skills(7, -1, 6), 1);
        finds("who: NULL, not PLACE", x, x.who(0, 7, -1, 8), 1);
    }

    /** A refusal, or a finding, in a state: its answer, what status() and fault() are then, and that all else stays. */
    private void refused(String call, Consumer<GuildPiece> state, ToLongFunction<GuildPiece> one, int want) {
        GuildPiece x = new GuildPiece();
        state.accept(x);
        int status = x.status();
        int fault = x.fault();
        s.due(call, one.applyAsLong(x), want);
        boolean isFinding = want <= Check.NULL;
        s.due("status behind " + call, x.status(), isFinding ? -1000010 - want : status);
        s.due("fault behind " + call, x.fault(), fault);
        s.holds(call + " changes nothing", Unchanged.by(state, one::applyAsLong));
    }

    private void nothingButStatus() {
        s.says("What is refused, or found, changes nothing but status().");
        rowsRefused();
        textsRefused();
        actsRefused();
        foretoldRefused();
        askedRefused();
        withoutATrial();
    }

    private void rowsRefused() {
        Consumer<GuildPiece> rich = Unchanged::begun;
        refused("row(8, 0, 1)", rich, x -> x.row(8, 0, 1), Check.BAD);
        refused("row(-1, 0, 1)", rich, x -> x.row(-1, 0, 1), Check.BAD);
        refused("row(0, 3, 1)", rich, x -> x.row(0, 3, 1), Check.BAD);
        refused("row(0, -1, 1)", rich, x -> x.row(0, -1, 1), Check.BAD);
        refused("row(0, 0, 41)", rich, x -> x.row(0, 0, 41), Check.BAD);
        refused("row(0, 0, -1)", rich, x -> x.row(0, 0, -1), Check.SIZE);
        refused("row(4, 0, -1)", rich, x -> x.row(4, 0, -1), Check.SIZE);
        refused("set(8, 0, 1)", rich, x -> x.set(8, 0, 1), Check.BAD);
        refused("set(4, 0, 1)", rich, x -> x.set(4, 0, 1), Check.NULL);
        refused("set(0, 3, 1)", rich, x -> x.set(0, 3, 1), Check.PLACE);
        refused("set(0, -1, 1)", rich, x -> x.set(0, -1, 1), Check.PLACE);
        refused("copy(0, 0, 8, 0, 1)", rich, x -> x.copy(0, 0, 8, 0, 1), Check.BAD);
        refused("copy(4, 0, 0, 0, 1)", rich, x -> x.copy(4, 0, 0, 0, 1), Check.NULL);
        refused("copy(0, 0, 4, 0, 1)", rich, x -> x.copy(0, 0, 4, 0, 1), Check.NULL);
        refused("copy(0, 0, 2, 0, 1)", rich, x -> x.copy(0, 0, 2, 0, 1), Check.STORE);
        refused("copy(0, 0, 1, 0, 3)", rich, x -> x.copy(0, 0, 1, 0, 3), Check.PLACE);
        refused("copy(1, 0, 0, 0, 3)", rich, x -> x.copy(1, 0, 0, 0, 3), Check.PLACE);
        refused("copy(0, 0, 0, 1, 3)", rich, x -> x.copy(0, 0, 0, 1, 3), Check.PLACE);
        refused("copy(0, -1, 1, 0, 2)", rich, x -> x.copy(0, -1, 1, 0, 2), Check.PLACE);
        refused("drop(8)", rich, x -> x.drop(8), Check.BAD);
        refused("drop(4)", rich, x -> x.drop(4), Check.NULL);
    }

    private void textsRefused() {
        refused("feed(256)", Unchanged::begun, x -> x.feed(256), Check.BAD);
        refused("feed(-1)", Unchanged::begun, x -> x.feed(-1), Check.BAD);
        refused("feed(0) of a full tape", Unchanged::full, x -> x.feed(0), Check.FULL);
        refused("feed(256) of a full tape", Unchanged::full, x -> x.feed(256), Check.BAD);
        refused("undo of none", Unchanged::poor, GuildPiece::undo, Check.STATE);
    }

    private void actsRefused() {
        Consumer<GuildPiece> rich = Unchanged::begun;
        Consumer<GuildPiece> poor = Unchanged::poor;
        refused("make(5)", rich, x -> x.make(5), Check.BAD);
        refused("make of one that is made", rich, x -> x.make(0), Check.STATE);
        refused("make with too few days", poor, x -> x.make(1), Check.STATE);
        refused("make with too little money", poor, x -> x.make(3), Check.STATE);
        refused("mend(5)", rich, x -> x.mend(5), Check.BAD);
        refused("mend of one that is mended", rich, x -> x.mend(3), Check.STATE);
        refused("mend of one that is not made", rich, x -> x.mend(2), Check.STATE);
        refused("mend with too few days", poor, x -> x.mend(0), Check.STATE);
        refused("feast(2)", rich, x -> x.feast(2), Check.BAD);
        refused("feast of one who is", rich, x -> x.feast(0), Check.STATE);
        refused("feast with too little money", rich, x -> x.feast(1), Check.STATE);
        refused("idle(0)", rich, x -> x.idle(0), Check.BAD);
        refused("idle(21)", rich, x -> x.idle(21), Check.BAD);
        refused("idle(20) of 19 days", rich, x -> x.idle(20), Check.STATE);
        refused("idle(1) of no day", poor, x -> x.idle(1), Check.STATE);
        refused("lesson", poor, GuildPiece::lesson, Check.STATE);
        refused("part(5, 0)", rich, x -> x.part(5, 0), Check.BAD);
        refused("part(0, 8)", rich, x -> x.part(0, 8), Check.BAD);
        refused("elder(2, 0)", rich, x -> x.elder(2, 0), Check.BAD);
        refused("elder(0, 6)", rich, x -> x.elder(0, 6), Check.BAD);
        refused("stand(7)", rich, x -> x.stand(7), Check.BAD);
    }

    private void foretoldRefused() {
        Consumer<GuildPiece> rich = Unchanged::begun;
        refused("fewest(3)", rich, x -> x.fewest(3), Check.BAD);
        refused("feasts(2)", rich, x -> x.feasts(2), Check.BAD);
        refused("mends(2)", rich, x -> x.mends(2), Check.BAD);
        refused("whereIs(0, 0, 2)", rich, x -> x.whereIs(0, 0, 2), Check.BAD);
        refused("whereIs(4, 0, 0)", rich, x -> x.whereIs(4, 0, 0), Check.NULL);
        refused("whereIs(0, 2, 0)", rich, x -> x.whereIs(0, 2, 0), Check.PLACE);
        refused("skills(0, 0, 7)", rich, x -> x.skills(0, 0, 7), Check.BAD);
        refused("skills(4, 0, 1)", rich, x -> x.skills(4, 0, 1), Check.NULL);
        refused("skills(0, 2, 1)", rich, x -> x.skills(0, 2, 1), Check.PLACE);
        refused("who(0, 0, 0, 9)", rich, x -> x.who(0, 0, 0, 9), Check.BAD);
        refused("who(0, 4, 0, 1)", rich, x -> x.who(0, 4, 0, 1), Check.NULL);
        refused("who(0, 0, 1, 1)", rich, x -> x.who(0, 0, 1, 1), Check.PLACE);
        refused("err(11, 0)", rich, x -> x.err(11, 0), Check.BAD);
        refused("worth(21)", rich, x -> x.worth(21), Check.BAD);
        refused("drawn(31, 1, 0)", rich, x -> x.drawn(31, 1, 0), Check.BAD);
        refused("image(2)", rich, x -> x.image(2), Check.BAD);
        refused("restore(2)", rich, x -> x.restore(2), Check.BAD);
        refused("restore(1) of none", rich, x -> x.restore(1), Check.STATE);
        Consumer<GuildPiece> items = x -> {
            Unchanged.rich(x);
            x.set(0, 0, -1);
            x.set(0, 2, 5);
            x.drop(4);
        };
        refused("skills by what is no part", items, x -> x.skills(0, 0, 1), Check.BAD);
        refused("who by what is no skill", items, x -> x.who(0, 0, 0, 1), Check.BAD);
    }

    private void askedRefused() {
        Consumer<GuildPiece> rich = Unchanged::begun;
        refused("kind(5)", rich, x -> x.kind(5), Check.BAD);
        refused("as(5, 0)", rich, x -> x.as(5, 0), Check.BAD);
        refused("as(0, 6)", rich, x -> x.as(0, 6), Check.BAD);
        refused("as(0, 4)", rich, x -> x.as(0, 4), Check.KIND);
        refused("ask(5, 0)", rich, x -> x.ask(5, 0), Check.BAD);
        refused("ask(0, 2)", rich, x -> x.ask(0, 2), Check.BAD);
        refused("count(8)", rich, x -> x.count(8), Check.BAD);
    }

    private void withoutATrial() {
        Consumer<GuildPiece> none = Unchanged::untold;
        refused("make(0), untold", none, x -> x.make(0), Check.BAD);
        refused("idle(1), untold", none, x -> x.idle(1), Check.STATE);
        refused("lesson, untold", none, GuildPiece::lesson, Check.STATE);
        refused("undo, untold", none, GuildPiece::undo, Check.STATE);
        refused("image(0), untold", none, x -> x.image(0), Check.STATE);
        refused("restore(0), untold", none, x -> x.restore(0), Check.STATE);
        refused("whereIs, untold", none, x -> x.whereIs(0, 0, 0), Check.STATE);
        refused("skills, untold", none, x -> x.skills(0, 0, 1), Check.STATE);
        refused("who, untold", none, x -> x.who(0, 0, 0, 1), Check.BAD);
        refused("drawn, untold", none, x -> x.drawn(0, 1, 0), Check.STATE);
    }

    /** The comments of the interface stand in the class ahead of the same calls. */
    private void comments() {
        String source = LanguageTest.source();
        String[][] groups = {
            {"rows", "row", "set", "copy", "drop"},
            {"what is told", "feed", "trial", "fault", "undo"},
            {"what is done", "make", "mend", "feast", "idle", "lesson", "part", "elder", "stand"},
            {"foretold", "fewest", "can", "feasts", "mends", "decides", "whereIs", "skills", "who", "err", "worth", "drawn",
                "image", "restore"},
            {"asked", "kind", "as", "ask", "trace", "count", "status"}};
        for (int g = 0; g < groups.length; g++) {
            StringBuilder words = new StringBuilder("Ahead of the calls ");
            for (int i = 1; i < groups[g].length; i++) {
                words.append(i == 1 ? "`" : ", `").append(groups[g][i]).append("`");
            }
            s.says(words + " the interface says: ---- " + groups[g][0] + ".");
            int from = source.indexOf("// ---- " + groups[g][0] + "\n");
            int to = source.indexOf("// ----", from + 1);
            s.holds("the class says so", from >= 0 && to > from);
            for (int i = 1; from >= 0 && i < groups[g].length; i++) {
                int at = source.indexOf(" " + groups[g][i] + "(", from);
                s.holds(groups[g][i] + " stands there", at > from && at < to);
            }
        }
    }
}
