import java.math.BigInteger;
import java.util.ArrayDeque;
import java.util.ArrayList;
import java.util.Deque;
import java.util.List;

/**
 * The document said once more, as naively as can be, to hold the class against:
 * kinds are Java's own classes, rows Java's own arrays, orders are all tried.
 */
final class Model {
    static final int NONE = -1000000, BAD = -1000001, STATE = -1000002, FULL = -1000003;

    interface Asked {
        List<Integer> trace();

        int number();

        int time();

        default int size() {
            trace().add(10);
            return time();
        }

        default int mark() {
            trace().add(20);
            return number();
        }
    }

    static class Part implements Asked, Cloneable {
        int kind, number, need, time, ahead;
        boolean made, fault;
        List<Integer> trace;

        public List<Integer> trace() {
            return trace;
        }

        public int number() {
            return number;
        }

        public int time() {
            return time;
        }

        int days(int skill) {
            return time;
        }

        int money() {
            return 0;
        }

        int takes(int skill) {
            return days(skill) + money();
        }

        boolean wouldFail(int skill) {
            return skill < need;
        }

        boolean foundBy(int eye) {
            return true;
        }

        Part twin() {
            try {
                return (Part) clone();
            } catch (CloneNotSupportedException e) {
                throw new IllegalStateException(e);
            }
        }
    }

    static class Joint extends Part {
        @Override
        public int size() {
            trace.add(11);
            int ten = super.size();
            return ten + mark();
        }

        @Override
        public int mark() {
            trace.add(21);
            return super.mark() + need;
        }
    }

    static final class Carved extends Joint {
        @Override
        public int size() {
            trace.add(12);
            return -super.size();
        }

        @Override
        public int mark() {
            trace.add(24);
            return super.mark() * 2;
        }

        @Override
        int days(int skill) {
            return skill < need ? time * 2 : time;
        }

        @Override
        boolean wouldFail(int skill) {
            return skill + 5 < need;
        }
    }

    static final class Hidden extends Joint {
        @Override
        public int mark() {
            trace.add(22);
            return super.mark() - 1000;
        }

        @Override
        boolean foundBy(int eye) {
            return eye >= need;
        }
    }

    static class Wax extends Part {
        @Override
        public int size() {
            trace.add(13);
            return super.size() - 100;
        }

        @Override
        public int mark() {
            trace.add(23);
            int twenty = super.mark();
            return twenty - size();
        }

        @Override
        int days(int skill) {
            return time / 2 + 1;
        }

        @Override
        boolean wouldFail(int skill) {
            return true;
        }

        @Override
        boolean foundBy(int eye) {
            return eye > 10;
        }
    }

    static final class Bought extends Wax {
        @Override
        public int size() {
            trace.add(14);
            return super.size() * 2;
        }

        @Override
        int days(int skill) {
            return 0;
        }

        @Override
        int money() {
            return time;
        }

        @Override
        boolean wouldFail(int skill) {
            return need > 10;
        }

        @Override
        boolean foundBy(int eye) {
            return eye > 15;
        }
    }

    static final Class<?>[] KINDS = {Part.class, Joint.class, Carved.class, Hidden.class, Wax.class, Bought.class};

    static Part newPart(int kind) {
        Part p = kind == 1 ? new Joint() : kind == 2 ? new Carved() : kind == 3 ? new Hidden()
            : kind == 4 ? new Wax() : new Bought();
        p.kind = kind;
        return p;
    }

    static final class Elder {
        int eye, mild, price;
        boolean feasted;
    }

    static final class Trial {
        int skill, days, money;
        final List<Part> parts = new ArrayList<>();
        final List<Elder> elders = new ArrayList<>();

        Trial twin() {
            Trial t = new Trial();
            t.skill = skill;
            t.days = days;
            t.money = money;
            for (Part p : parts) {
                t.parts.add(p.twin());
            }
            for (Elder e : elders) {
                Elder f = new Elder();
                f.eye = e.eye;
                f.mild = e.mild;
                f.price = e.price;
                f.feasted = e.feasted;
                t.elders.add(f);
            }
            return t;
        }

        boolean may(Part p) {
            return !p.made && (p.ahead == 7 || parts.get(p.ahead).made) && days >= p.days(skill)
                && money >= p.money();
        }

        void make(Part p) {
            p.fault = p.wouldFail(skill);
            days -= p.days(skill);
            money -= p.money();
            p.made = true;
            if (p.kind != 5 && skill < 20) {
                skill++;
            }
        }

        int found(Elder e) {
            int n = 0;
            for (Part p : parts) {
                if (p.made && p.fault && p.foundBy(e.eye)) {
                    n++;
                }
            }
            return n;
        }

        boolean votes(Elder e) {
            return e.feasted || found(e) <= e.mild;
        }

        int votesFor() {
            int n = 0;
            for (Elder e : elders) {
                n += votes(e) ? 1 : 0;
            }
            return n;
        }

        static boolean wins(int votes, int elders) {
            return elders == 0 || votes > elders - votes;
        }

        boolean wins() {
            return wins(votesFor(), elders.size());
        }

        int made() {
            int bits = 0;
            for (Part p : parts) {
                bits |= p.made ? 1 << p.number : 0;
            }
            return bits;
        }

        int faults() {
            int bits = 0;
            for (Part p : parts) {
                bits |= p.fault ? 1 << p.number : 0;
            }
            return bits;
        }
    }

    private final Object[] rows = new Object[8];
    private final StringBuilder tape = new StringBuilder();
    private final List<Integer> trace = new ArrayList<>();
    private final Trial[] images = new Trial[2];
    private final Deque<Trial> acts = new ArrayDeque<>();
    private Trial t;
    private int fault, status;

    // rows

    private int found(int number) {
        status = number;
        return -1000010 - number;
    }

    private int fine(int answer) {
        status = 0;
        return answer;
    }

    private static boolean bad(int v, int least, int most) {
        return v < least || v > most;
    }

    /** Not by java.lang.reflect.Array: the ints of its native calls made this machine's JDK crash (NOTES.md). */
    private static int length(Object row) {
        return row instanceof byte[] b ? b.length : row instanceof short[] s ? s.length : ((int[]) row).length;
    }

    private static int item(Object row, int i) {
        return row instanceof byte[] b ? b[i] : row instanceof short[] s ? s[i] : ((int[]) row)[i];
    }

    int row(int row, int lane, int n) {
        if (bad(row, 0, 7) || bad(lane, 0, 2) || n > 40) {
            return BAD;
        }
        if (n < 0) {
            return found(4);
        }
        rows[row] = lane == 0 ? new byte[n] : lane == 1 ? new short[n] : (Object) new int[n];
        return fine(n);
    }

    int set(int row, int i, int v) {
        if (bad(row, 0, 7)) {
            return BAD;
        }
        if (rows[row] == null) {
            return found(1);
        }
        if (bad(i, 0, length(rows[row]) - 1)) {
            return found(2);
        }
        if (rows[row] instanceof byte[] b) {
            b[i] = (byte) v;
        } else if (rows[row] instanceof short[] s) {
            s[i] = (short) v;
        } else {
            ((int[]) rows[row])[i] = v;
        }
        return fine(item(rows[row], i));
    }

    int copy(int a, int i, int b, int j, int n) {
        if (bad(a, 0, 7) || bad(b, 0, 7)) {
            return BAD;
        }
        try {
            System.arraycopy(rows[a], i, rows[b], j, n);
            return fine(n);
        } catch (NullPointerException e) {
            return found(1);
        } catch (ArrayStoreException e) {
            return found(5);
        } catch (IndexOutOfBoundsException e) {
            return found(2);
        }
    }

    int drop(int row) {
        if (bad(row, 0, 7)) {
            return BAD;
        }
        if (rows[row] == null) {
            return found(1);
        }
        int n = length(rows[row]);
        rows[row] = null;
        return fine(n);
    }

    // what is told

    int feed(int letter) {
        if (bad(letter, 0, 255)) {
            return BAD;
        }
        if (tape.length() == 120) {
            return FULL;
        }
        tape.append((char) letter);
        return tape.length();
    }

    record Token(int place, char sort, int value) {
    }

    static List<Token> tokens(String s) {
        List<Token> all = new ArrayList<>();
        int i = 0;
        while (i < s.length()) {
            char ch = s.charAt(i);
            int end = i;
            while (end < s.length() && s.charAt(end) >= '0' && s.charAt(end) <= '9') {
                end++;
            }
            if (end > i) {
                all.add(end - i > 2 ? new Token(i, '?', 0) : new Token(i, '0', Integer.parseInt(s.substring(i, end))));
                i = end;
            } else {
                boolean is = ch >= 'a' && ch <= 'z' || ch == ',' || ch == ';';
                all.add(new Token(i, is ? ch : '?', 0));
                i++;
            }
        }
        all.add(new Token(s.length(), '$', 0));
        return all;
    }

    static final class Faulty extends Exception {
        private static final long serialVersionUID = 1;
        final int number, place;

        Faulty(int number, Token at) {
            this.number = number;
            this.place = at.place();
        }
    }

    private static int[] three(List<Token> in, int from, int[] least, int[] most, int told) throws Faulty {
        int[] v = new int[3];
        for (int k = 0; k < 3; k++) {
            Token n = in.get(from + 2 * k);
            if (n.sort() != '0') {
                throw new Faulty(1, n);
            }
            v[k] = n.value();
            boolean ahead = told >= 0 && k == 2;
            if (ahead ? v[k] != 7 && v[k] >= told : bad(v[k], least[k], most[k])) {
                throw new Faulty(2, n);
            }
            Token sign = in.get(from + 2 * k + 1);
            if (sign.sort() != (k == 2 ? ';' : ',')) {
                throw new Faulty(1, sign);
            }
        }
        return v;
    }

    private Trial read(String s) throws Faulty {
        List<Token> in = tokens(s);
        if (in.get(0).sort() != 'g') {
            throw new Faulty(1, in.get(0));
        }
        Trial r = new Trial();
        int[] law = three(in, 1, new int[] {0, 0, 0}, new int[] {20, 60, 99}, -1);
        r.skill = law[0];
        r.days = law[1];
        r.money = law[2];
        int at = 7;
        while (in.get(at).sort() != '$' || r.parts.isEmpty()) {
            Token head = in.get(at);
            int kind = 1 + "jchwb".indexOf(head.sort());
            if (kind > 0 && r.elders.isEmpty()) {
                if (r.parts.size() == 7) {
                    throw new Faulty(3, head);
                }
                int[] v = three(in, at + 1, new int[] {0, 1, 0}, new int[] {20, 20, 0}, r.parts.size());
                Part p = newPart(kind);
                p.number = r.parts.size();
                p.need = v[0];
                p.time = v[1];
                p.ahead = v[2];
                p.trace = trace;
                r.parts.add(p);
            } else if (head.sort() == 'e' && !r.parts.isEmpty()) {
                if (r.elders.size() == 5) {
                    throw new Faulty(3, head);
                }
                int[] v = three(in, at + 1, new int[] {0, 0, 1}, new int[] {20, 7, 50}, -1);
                Elder e = new Elder();
                e.eye = v[0];
                e.mild = v[1];
                e.price = v[2];
                r.elders.add(e);
            } else {
                throw new Faulty(1, head);
            }
            at += 7;
        }
        return r;
    }

    int trial() {
        String s = tape.toString();
        tape.setLength(0);
        try {
            t = read(s);
            acts.clear();
            return t.parts.size();
        } catch (Faulty f) {
            fault = f.number;
            return -1000100 - f.place;
        }
    }

    int fault() {
        return fault;
    }

    int undo() {
        if (acts.isEmpty()) {
            return STATE;
        }
        t = acts.pop();
        return acts.size();
    }

    // what is done

    private void act() {
        acts.push(t.twin());
        if (acts.size() > 24) {
            acts.removeLast();
        }
    }

    private boolean noPart(int p) {
        return t == null || bad(p, 0, t.parts.size() - 1);
    }

    private boolean noElder(int e) {
        return t == null || bad(e, 0, t.elders.size() - 1);
    }

    int make(int part) {
        if (noPart(part)) {
            return BAD;
        }
        if (!t.may(t.parts.get(part))) {
            return STATE;
        }
        act();
        t.make(t.parts.get(part));
        return t.parts.get(part).fault ? 1 : 0;
    }

    int mend(int part) {
        if (noPart(part)) {
            return BAD;
        }
        Part p = t.parts.get(part);
        if (!p.fault || t.days < p.time + 1) {
            return STATE;
        }
        act();
        t.parts.get(part).fault = false;
        t.days -= p.time + 1;
        return t.days;
    }

    int feast(int elder) {
        if (noElder(elder)) {
            return BAD;
        }
        Elder e = t.elders.get(elder);
        if (e.feasted || t.money < e.price) {
            return STATE;
        }
        act();
        e.feasted = true;
        t.money -= e.price;
        return t.money;
    }

    int idle(int n) {
        if (t == null) {
            return STATE;
        }
        if (bad(n, 1, 20)) {
            return BAD;
        }
        if (t.days < n) {
            return STATE;
        }
        for (int k = 0; k < n; k++) {
            act();
            t.days--;
        }
        return t.days;
    }

    int lesson() {
        if (t == null || t.money < 3 || t.days < 1 || t.skill == 20) {
            return STATE;
        }
        act();
        t.money -= 3;
        t.days--;
        return ++t.skill;
    }

    int part(int part, int what) {
        if (noPart(part) || bad(what, 0, 7)) {
            return BAD;
        }
        Part p = t.parts.get(part);
        int[] all = {p.need, p.time, p.ahead == 7 ? NONE : p.ahead, p.made ? 1 : 0, p.fault ? 1 : 0, p.takes(t.skill),
            p.wouldFail(t.skill) ? 1 : 0, t.may(p) ? 1 : 0};
        return all[what];
    }

    int elder(int elder, int what) {
        if (noElder(elder) || bad(what, 0, 5)) {
            return BAD;
        }
        Elder e = t.elders.get(elder);
        int[] all = {e.eye, e.mild, e.price, e.feasted ? 1 : 0, t.found(e), t.votes(e) ? 1 : 0};
        return all[what];
    }

    int stand(int what) {
        if (t == null) {
            return STATE;
        }
        if (bad(what, 0, 6)) {
            return BAD;
        }
        int votes = 0;
        for (int e = 0; e < t.elders.size(); e++) {
            votes |= t.votes(t.elders.get(e)) ? 1 << e : 0;
        }
        boolean all = t.parts.stream().allMatch(p -> p.made);
        int[] each = {t.skill, t.days, t.money, t.made(), t.faults(), votes, all && t.wins() ? 1 : 0};
        return each[what];
    }

    // foretold

    /** All rows of parts to the end, in the order of their numbers: {faults, days, first}. */
    private static void allRows(Trial t, int first, List<int[]> ends) {
        boolean whole = true;
        for (Part p : t.parts) {
            if (!p.made) {
                whole = false;
            }
            if (t.may(p)) {
                Trial u = t.twin();
                u.make(u.parts.get(p.number));
                allRows(u, first == NONE ? p.number : first, ends);
            }
        }
        if (whole) {
            ends.add(new int[] {Integer.bitCount(t.faults()), t.days, first});
        }
    }

    private static int[] fewest(Trial t) {
        List<int[]> ends = new ArrayList<>();
        allRows(t, NONE, ends);
        int[] best = null;
        for (int[] end : ends) {
            if (best == null || end[0] < best[0] || end[0] == best[0] && end[1] > best[1]) {
                best = end;
            }
        }
        return best == null ? new int[] {NONE, NONE, NONE} : best;
    }

    int fewest(int what) {
        return t == null ? STATE : bad(what, 0, 2) ? BAD : fewest(t)[what];
    }

    private static int canBe(Trial t) {
        int bits = 0;
        for (Part p : t.parts) {
            if (t.may(p)) {
                Trial u = t.twin();
                u.make(u.parts.get(p.number));
                bits |= 1 << p.number | canBe(u);
            }
        }
        return bits;
    }

    int can() {
        return t == null ? STATE : canBe(t);
    }

    int feasts(int what) {
        if (t == null) {
            return STATE;
        }
        if (bad(what, 0, 1)) {
            return BAD;
        }
        int[] best = null;
        for (int s = 0; s < 1 << t.elders.size(); s++) {
            Trial u = t.twin();
            boolean all = true;
            for (int e = 0; e < u.elders.size(); e++) {
                if ((s >> e & 1) == 1) {
                    all &= !u.elders.get(e).feasted;
                    u.elders.get(e).feasted = true;
                    u.money -= u.elders.get(e).price;
                }
            }
            int[] one = {Integer.bitCount(s), t.money - u.money, s};
            if (all && u.money >= 0 && u.wins() && (best == null || java.util.Arrays.compare(one, best) < 0)) {
                best = one;
            }
        }
        return best == null ? NONE : best[what * 2];
    }

    int mends(int what) {
        if (t == null) {
            return STATE;
        }
        if (bad(what, 0, 1)) {
            return BAD;
        }
        int[] best = null;
        for (int s = 0; s < 1 << t.parts.size(); s++) {
            Trial u = t.twin();
            boolean all = true;
            for (Part p : u.parts) {
                if ((s >> p.number & 1) == 1) {
                    all &= p.fault;
                    p.fault = false;
                    u.days -= p.time + 1;
                }
            }
            int[] one = {Integer.bitCount(s), s};
            if (all && u.days >= 0 && u.wins() && (best == null || java.util.Arrays.compare(one, best) < 0)) {
                best = one;
            }
        }
        return best == null ? NONE : best[what];
    }

    int decides() {
        if (t == null) {
            return STATE;
        }
        int bits = 0;
        int votes = t.votesFor();
        for (int e = 0; e < t.elders.size(); e++) {
            int otherwise = votes + (t.votes(t.elders.get(e)) ? -1 : 1);
            bits |= Trial.wins(otherwise, t.elders.size()) != t.wins() ? 1 << e : 0;
        }
        return bits;
    }

    private static boolean beyond(Object row, int i, int n) {
        return i < 0 || (long) i + n > length(row);
    }

    int whereIs(int row, int i, int what) {
        if (t == null) {
            return STATE;
        }
        if (bad(row, 0, 7) || bad(what, 0, 1)) {
            return BAD;
        }
        if (rows[row] == null) {
            return found(1);
        }
        if (beyond(rows[row], i, t.elders.size())) {
            return found(2);
        }
        List<Integer> fits = new ArrayList<>();
        for (int s = 0; s < 1 << t.parts.size(); s++) {
            Trial u = t.twin();
            for (Part p : u.parts) {
                p.fault = (s >> p.number & 1) == 1;
            }
            boolean fit = (s & ~t.made()) == 0;
            for (int e = 0; e < u.elders.size(); e++) {
                fit &= u.found(u.elders.get(e)) == item(rows[row], i + e);
            }
            if (fit) {
                fits.add(s);
            }
        }
        return fine(what == 0 ? fits.size() : fits.isEmpty() ? NONE : fits.get(0));
    }

    int skills(int row, int i, int n) {
        if (t == null) {
            return STATE;
        }
        if (bad(row, 0, 7) || bad(n, 1, 6)) {
            return BAD;
        }
        if (rows[row] == null) {
            return found(1);
        }
        if (beyond(rows[row], i, 2 * n)) {
            return found(2);
        }
        for (int k = 0; k < n; k++) {
            if (noPart(item(rows[row], i + 2 * k))) {
                return BAD;
            }
        }
        int bits = 0;
        for (int skill = 0; skill <= 20; skill++) {
            Trial u = t.twin();
            u.skill = skill;
            boolean so = true;
            for (int k = 0; k < n && so; k++) {
                u.days = 1000;
                u.money = 1000;
                Part p = u.parts.get(item(rows[row], i + 2 * k));
                so = u.may(p);
                if (so) {
                    u.make(p);
                    so = (p.fault ? 1 : 0) == item(rows[row], i + 2 * k + 1);
                }
            }
            bits |= so ? 1 << skill : 0;
        }
        return fine(bits);
    }

    int who(int part, int row, int i, int n) {
        if (noPart(part) || bad(row, 0, 7) || bad(n, 1, 8)) {
            return BAD;
        }
        if (rows[row] == null) {
            return found(1);
        }
        if (beyond(rows[row], i, 3 * n)) {
            return found(2);
        }
        int bits = 0;
        for (int kind = 1; kind <= 5; kind++) {
            Part p = newPart(kind);
            p.need = t.parts.get(part).need;
            p.time = t.parts.get(part).time;
            boolean so = true;
            for (int k = 0; k < n; k++) {
                int skill = item(rows[row], i + 3 * k);
                if (bad(skill, 0, 20)) {
                    return BAD;
                }
                so &= p.takes(skill) == item(rows[row], i + 3 * k + 1);
                so &= (p.wouldFail(skill) ? 1 : 0) == item(rows[row], i + 3 * k + 2);
            }
            bits |= so ? 1 << kind : 0;
        }
        return fine(bits);
    }

    long err(int p, int what) {
        if (t == null) {
            return STATE;
        }
        if (bad(p, 0, 10) || bad(what, 0, 1)) {
            return BAD;
        }
        int n = t.elders.size();
        BigInteger[] ways = new BigInteger[n + 1];
        java.util.Arrays.fill(ways, BigInteger.ZERO);
        ways[0] = BigInteger.ONE;
        for (Elder e : t.elders) {
            long yes = t.votes(e) ? 10 - p : p;
            for (int v = n; v >= 0; v--) {
                BigInteger now = ways[v].multiply(BigInteger.valueOf(10 - yes));
                ways[v] = v == 0 ? now : now.add(ways[v - 1].multiply(BigInteger.valueOf(yes)));
            }
        }
        BigInteger above = BigInteger.ZERO;
        for (int v = 0; v <= n; v++) {
            above = Trial.wins(v, n) ? above.add(ways[v]) : above;
        }
        BigInteger below = BigInteger.TEN.pow(n);
        BigInteger gcd = above.gcd(below);
        return (what == 0 ? above : below).divide(gcd).longValueExact();
    }

    int worth(int days) {
        if (t == null) {
            return STATE;
        }
        if (bad(days, 0, 20)) {
            return BAD;
        }
        Trial u = t.twin();
        u.days += days;
        return fewest(u)[0];
    }

    int drawn(int n, int seed, int what) {
        if (t == null) {
            return STATE;
        }
        if (bad(n, 0, 30) || bad(seed, 1, 999999) || bad(what, 0, 1)) {
            return BAD;
        }
        Trial u = t.twin();
        BigInteger x = BigInteger.valueOf(seed);
        for (int k = 0; k < n; k++) {
            x = x.multiply(BigInteger.valueOf(16807)).mod(BigInteger.valueOf(2147483647));
            Part p = u.parts.get(x.mod(BigInteger.valueOf(u.parts.size())).intValue());
            if (u.may(p)) {
                u.make(p);
                p.fault |= x.mod(BigInteger.valueOf(5)).signum() == 0;
            }
        }
        return what == 0 ? u.made() : Integer.bitCount(u.faults());
    }

    int image(int k) {
        if (bad(k, 0, 1)) {
            return BAD;
        }
        if (t == null) {
            return STATE;
        }
        images[k] = t.twin();
        return 1;
    }

    int restore(int k) {
        if (bad(k, 0, 1)) {
            return BAD;
        }
        if (images[k] == null) {
            return STATE;
        }
        t = images[k].twin();
        acts.clear();
        return 1;
    }

    // asked

    int kind(int one) {
        return noPart(one) ? BAD : t.parts.get(one).kind;
    }

    int as(int one, int kind) {
        if (noPart(one) || bad(kind, 0, 5)) {
            return BAD;
        }
        return KINDS[kind].isInstance(t.parts.get(one)) ? fine(one) : found(3);
    }

    int ask(int one, int what) {
        if (noPart(one) || bad(what, 0, 1)) {
            return BAD;
        }
        trace.clear();
        Asked a = t.parts.get(one);
        return what == 0 ? a.size() : a.mark();
    }

    int trace(int i) {
        return bad(i, 0, Math.min(16, trace.size()) - 1) ? NONE : trace.get(i);
    }

    int count(int what) {
        if (bad(what, 0, 7)) {
            return BAD;
        }
        int there = 0;
        for (Object row : rows) {
            there += row != null ? 1 : 0;
        }
        int[] all = {there, t == null ? 0 : t.parts.size(), t == null ? 0 : t.elders.size(), t == null ? 0 : t.made(),
            t == null ? 0 : t.days, t == null ? 0 : t.money, acts.size(), tape.length()};
        return all[what];
    }

    int status() {
        return status;
    }
}
