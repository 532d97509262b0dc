/** Promises 1 and 31 to 36: a new object, kind, as, ask, trace, count, status. */
public final class AskedTest {
    private static final Check c = new Check("asked");
    private static final String FIVE = "g0,9,0;j3,4,7;c5,6,7;h7,8,7;w9,10,7;b11,12,7;";

    public static void main(String[] args) {
        aNewObject();
        kinds();
        partsAreTakenAsKinds();
        bodies();
        theTraceStays();
        counts();
        c.end();
    }

    private static void aNewObject() {
        GuildPiece x = new GuildPiece();
        for (int what = 0; what < 8; what++) {
            c.due("count(" + what + ")", x.count(what), 0);
        }
        c.due("no trial", x.stand(0), Check.STATE);
        c.due("no fault", x.fault(), 0);
        c.due("no finding", x.status(), 0);
        c.due("no trace", x.trace(0), Check.NONE);
        c.due("no kind", x.kind(0), Check.BAD);
        c.due("nothing to ask", x.ask(0, 0), Check.BAD);
        c.due("nothing to take", x.as(0, 0), Check.BAD);
        for (int row = 0; row < 8; row++) {
            c.due("row " + row + " is missing", x.drop(row), Check.NULL);
        }
    }

    private static void kinds() {
        GuildPiece x = Check.told(FIVE);
        for (int p = 0; p < 5; p++) {
            c.due("kind(" + p + ")", x.kind(p), p + 1);
        }
        c.due("kind(5)", x.kind(5), Check.BAD);
        c.due("kind(-1)", x.kind(-1), Check.BAD);
    }

    private static void partsAreTakenAsKinds() {
        GuildPiece x = Check.told(FIVE);
        String[] are = {"110000", "111000", "110100", "100010", "100011"};
        for (int p = 0; p < 5; p++) {
            for (int kind = 0; kind < 6; kind++) {
                boolean is = are[p].charAt(kind) == '1';
                c.due("as(" + p + ", " + kind + ")", x.as(p, kind), is ? p : Check.KIND);
                c.due("status", x.status(), is ? 0 : 3);
            }
        }
        x.as(0, 5);
        c.due("as(5, 0)", x.as(5, 0), Check.BAD);
        c.due("as(-1, 0)", x.as(-1, 0), Check.BAD);
        c.due("as(0, 6)", x.as(0, 6), Check.BAD);
        c.due("as(0, -1)", x.as(0, -1), Check.BAD);
        c.due("BAD leaves status", x.status(), 3);
    }

    private static void asks(int one, int what, int answer, int... trace) {
        GuildPiece x = Check.told(FIVE);
        x.ask(4, 1);
        c.due("ask(" + one + ", " + what + ")", x.ask(one, what), answer);
        for (int i = 0; i < trace.length; i++) {
            c.due("its trace " + i, x.trace(i), trace[i]);
        }
        c.due("its trace's end", x.trace(trace.length), Check.NONE);
    }

    private static void bodies() {
        asks(0, 0, 4 + 0 + 3, 11, 10, 21, 20);
        asks(1, 0, -(6 + 2 * (1 + 5)), 12, 11, 10, 24, 21, 20);
        asks(2, 0, 8 + 2 + 7 - 1000, 11, 10, 22, 21, 20);
        asks(3, 0, 10 - 100, 13, 10);
        asks(4, 0, 2 * (12 - 100), 14, 13, 10);
        asks(0, 1, 3, 21, 20);
        asks(1, 1, 2 * (1 + 5), 24, 21, 20);
        asks(2, 1, 2 + 7 - 1000, 22, 21, 20);
        asks(3, 1, 3 - (10 - 100), 23, 20, 13, 10);
        asks(4, 1, 4 - 2 * (12 - 100), 23, 20, 14, 13, 10);
    }

    private static void theTraceStays() {
        GuildPiece x = Check.told(FIVE);
        x.ask(0, 1);
        c.due("ask(5, 0)", x.ask(5, 0), Check.BAD);
        c.due("ask(0, 2)", x.ask(0, 2), Check.BAD);
        c.due("ask(0, -1)", x.ask(0, -1), Check.BAD);
        Check.tell(x, "g1,1,1;j0,1,7;");
        c.due("the trace stays", x.trace(0), 21);
        c.due("trace(-1)", x.trace(-1), Check.NONE);
        c.due("trace(2)", x.trace(2), Check.NONE);
        c.due("trace(16)", x.trace(16), Check.NONE);
        c.due("trace(MAX)", x.trace(Integer.MAX_VALUE), Check.NONE);
        c.due("trace(MIN)", x.trace(Integer.MIN_VALUE), Check.NONE);
    }

    private static void counts() {
        GuildPiece x = Check.told("g0,20,30;j0,1,7;j0,2,7;j0,3,7;e0,0,1;e0,0,2;");
        x.make(0);
        x.make(2);
        x.feast(1);
        x.row(0, 0, 0);
        x.row(7, 0, 1);
        x.feed('g');
        int[] want = {2, 3, 2, 5, 16, 28, 3, 1};
        for (int what = 0; what < want.length; what++) {
            c.due("count(" + what + ")", x.count(what), want[what]);
        }
        c.due("count(8)", x.count(8), Check.BAD);
        c.due("count(-1)", x.count(-1), Check.BAD);
    }
}
