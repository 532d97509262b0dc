import java.util.Random;

/** Runs of calls by draws (of fixed seeds): each answer of the class against the naive model's. */
public final class RandomRunsTest {
    private static final Check c = new Check("random runs");
    private static final int RUNS = 10000, CALLS = 512;

    private final Random draw;
    private final GuildPiece x = new GuildPiece();
    private final Model m = new Model();
    private final String run;

    private RandomRunsTest(int seed) {
        draw = new Random(seed);
        run = "run " + seed + ": ";
    }

    public static void main(String[] args) {
        int runs = args.length > 0 ? Integer.parseInt(args[0]) : RUNS;
        for (int seed = 0; seed < runs; seed++) {
            RandomRunsTest one = new RandomRunsTest(seed);
            int calls = seed % 8 == 0 ? 0 : one.tellOne();
            while (calls < CALLS - 120) {
                calls += one.step();
            }
            while (calls < CALLS) {
                calls += one.acts();
            }
        }
        c.end();
    }

    private int upTo(int n) {
        return draw.nextInt(n + 1);
    }

    /** Mostly one of 0 .. most, at times a number beside, or far from it. */
    private int near(int most) {
        int way = upTo(40);
        if (way == 0) {
            return -1 - upTo(2);
        }
        if (way == 1) {
            return most + 1 + upTo(2);
        }
        if (way == 2) {
            return draw.nextBoolean() ? Integer.MAX_VALUE - upTo(2) : Integer.MIN_VALUE + upTo(2);
        }
        return upTo(Math.max(0, most));
    }

    private void due(String call, long got, long want) {
        c.due(run + call, got, want);
    }

    private int step() {
        int way = upTo(99);
        if (way < 4) {
            return tellOne();
        }
        if (way < 20) {
            return rows();
        }
        if (way < 52) {
            return acts();
        }
        if (way < 66) {
            return foretold();
        }
        if (way < 80) {
            return byRows();
        }
        if (way < 90) {
            return asked();
        }
        return looks();
    }

    private String text() {
        StringBuilder s = new StringBuilder();
        s.append('g').append(upTo(20)).append(',').append(upTo(60)).append(',').append(upTo(99)).append(';');
        int parts = 1 + upTo(6);
        boolean wild = upTo(9) == 0;
        for (int p = 0; p < parts; p++) {
            int ahead = p == 0 || upTo(2) > 0 ? 7 : upTo(p - 1);
            s.append("jchwb".charAt(upTo(4))).append(upTo(20)).append(',').append(1 + upTo(upTo(1) == 0 ? 19 : 6))
                .append(',').append(wild ? upTo(8) : ahead).append(';');
        }
        int elders = upTo(5);
        for (int e = 0; e < elders; e++) {
            s.append('e').append(upTo(20)).append(',').append(upTo(upTo(1) == 0 ? 7 : 2)).append(',')
                .append(1 + upTo(upTo(1) == 0 ? 49 : 9)).append(';');
        }
        return s.toString();
    }

    private String spoilt(String text) {
        StringBuilder s = new StringBuilder(text);
        String signs = "gjchwbe0123456789,;,;7xzA \u00ff\u0000/:`{";
        int at = upTo(s.length() - 1);
        switch (upTo(4)) {
            case 0:
                s.setCharAt(at, signs.charAt(upTo(signs.length() - 1)));
                break;
            case 1:
                s.insert(at, signs.charAt(upTo(signs.length() - 1)));
                break;
            case 2:
                s.deleteCharAt(at);
                break;
            case 3:
                s.setLength(at);
                break;
            default:
                s.append(signs.charAt(upTo(signs.length() - 1)));
        }
        return s.toString();
    }

    private int tellOne() {
        String text = text();
        if (upTo(2) == 0) {
            text = spoilt(text);
        }
        for (int i = 0; i < text.length(); i++) {
            due("feed", x.feed(text.charAt(i)), m.feed(text.charAt(i)));
        }
        due("trial " + text, x.trial(), m.trial());
        due("fault " + text, x.fault(), m.fault());
        return text.length() + 2;
    }

    private int rows() {
        int a = near(7) & (upTo(3) == 0 ? -1 : 3);
        int b = near(7) & (upTo(3) == 0 ? -1 : 3);
        int i = near(39);
        int j = near(39);
        int n = near(40);
        int lane = upTo(1) == 0 ? 2 : near(2);
        int v = upTo(3) == 0 ? draw.nextInt() : near(20);
        switch (upTo(6)) {
            case 0:
                due("row " + a + " " + lane + " " + n, x.row(a, lane, n), m.row(a, lane, n));
                break;
            case 1:
                due("drop " + a, x.drop(a), m.drop(a));
                break;
            case 2:
                n = upTo(1) == 0 ? n : upTo(5);
                due("copy", x.copy(a, i, b, j, n), m.copy(a, i, b, j, n));
                break;
            default:
                due("set " + a + " " + i + " " + v, x.set(a, i, v), m.set(a, i, v));
        }
        due("status", x.status(), m.status());
        return 2;
    }

    private int acts() {
        int p = near(6);
        switch (upTo(13)) {
            case 0:
            case 1:
            case 2:
            case 3:
            case 4:
            case 5:
                due("make " + p, x.make(p), m.make(p));
                break;
            case 6:
            case 7:
                due("mend " + p, x.mend(p), m.mend(p));
                break;
            case 8:
                due("feast " + p, x.feast(p), m.feast(p));
                break;
            case 9:
                int n = upTo(2) == 0 ? near(20) : 1;
                due("idle " + n, x.idle(n), m.idle(n));
                break;
            case 10:
                due("lesson", x.lesson(), m.lesson());
                break;
            case 11:
                int k = near(1);
                due("image " + k, x.image(k), m.image(k));
                break;
            case 12:
                int l = near(1);
                due("restore " + l, x.restore(l), m.restore(l));
                break;
            default:
                due("undo", x.undo(), m.undo());
        }
        return 1;
    }

    private int foretold() {
        int what = near(1);
        switch (upTo(7)) {
            case 0:
                int which = near(2);
                due("fewest " + which, x.fewest(which), m.fewest(which));
                break;
            case 1:
                due("can", x.can(), m.can());
                break;
            case 2:
                due("feasts " + what, x.feasts(what), m.feasts(what));
                break;
            case 3:
                due("mends " + what, x.mends(what), m.mends(what));
                break;
            case 4:
                due("decides", x.decides(), m.decides());
                break;
            case 5:
                int p = near(10);
                due("err " + p + " " + what, x.err(p, what), m.err(p, what));
                break;
            case 6:
                int days = near(20);
                due("worth " + days, x.worth(days), m.worth(days));
                break;
            default:
                int n = near(30);
                int seed = upTo(9) == 0 ? near(3) : 1 + upTo(999999);
                due("drawn " + n + " " + seed, x.drawn(n, seed, what), m.drawn(n, seed, what));
        }
        return 1;
    }

    /** Lays a row that likely tells something true, then asks by it. */
    private int byRows() {
        int row = upTo(20) == 0 ? near(7) : 5;
        int way = upTo(2);
        int n = way == 0 ? 5 : way == 1 ? 1 + upTo(2) : 1 + upTo(1);
        int i = upTo(3) == 0 ? near(3) : 0;
        int items = 1 + upTo(11);
        due("row", x.row(5, upTo(1) == 0 ? 0 : 2, 0), m.row(5, 0, 0));
        due("row", x.row(5, 2, items), m.row(5, 2, items));
        int part = near(Math.max(0, x.count(1) - 1));
        for (int k = 0; k < items; k++) {
            int v = likely(way, k, part);
            due("set", x.set(5, k, v), m.set(5, k, v));
        }
        int what = near(1);
        if (way == 0) {
            due("whereIs " + row + " " + i, x.whereIs(row, i, what), m.whereIs(row, i, what));
        } else if (way == 1) {
            n = upTo(20) == 0 ? near(6) : n;
            due("skills " + row + " " + i + " " + n, x.skills(row, i, n), m.skills(row, i, n));
        } else {
            n = upTo(20) == 0 ? near(8) : n;
            due("who " + part + " " + row + " " + i + " " + n, x.who(part, row, i, n), m.who(part, row, i, n));
        }
        due("status", x.status(), m.status());
        return 2 * items + 5;
    }

    private int likely(int way, int k, int part) {
        if (way == 0) {
            return upTo(2) == 0 ? upTo(3) : Math.max(0, x.elder(k, 4));
        }
        if (way == 1) {
            return k % 2 == 0 ? near(Math.max(0, x.count(1) - 1)) : upTo(1);
        }
        int takes = Math.max(0, x.part(part, 1));
        return k % 3 == 0 ? near(20) : k % 3 == 2 ? upTo(1) : upTo(2) == 0 ? takes / 2 + 1 : takes * (1 + upTo(1));
    }

    private int asked() {
        int p = near(6);
        int what = near(1);
        int kind = near(5);
        switch (upTo(2)) {
            case 0:
                due("kind " + p, x.kind(p), m.kind(p));
                break;
            case 1:
                due("as " + p + " " + kind, x.as(p, kind), m.as(p, kind));
                due("status", x.status(), m.status());
                return 2;
            default:
                due("ask " + p + " " + what, x.ask(p, what), m.ask(p, what));
                for (int i = 0; i < 7; i++) {
                    due("trace " + i, x.trace(i), m.trace(i));
                }
                return 8;
        }
        return 1;
    }

    private int looks() {
        int p = near(6);
        int e = near(4);
        int what = near(7);
        due("part " + p + " " + what, x.part(p, what), m.part(p, what));
        due("elder " + e + " " + what, x.elder(e, what), m.elder(e, what));
        due("stand " + what, x.stand(what), m.stand(what));
        due("count " + what, x.count(what), m.count(what));
        due("fault", x.fault(), m.fault());
        due("trace " + p, x.trace(p), m.trace(p));
        return 6;
    }
}
