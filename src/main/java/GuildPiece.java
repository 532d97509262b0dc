/**
 * A masterpiece for the guild: parts that are made, faults that elders find, and
 * what can be foretold of it. What each call must answer stands in the document
 * (shared/DOC.md), promise by promise; the headings below are the document's.
 */
public final class GuildPiece {
    public static final int NONE = -1000000, BAD = -1000001, STATE = -1000002, FULL = -1000003;

    private static final int FINDINGS = -1000010, NULL = 1, PLACE = 2, NO_SUCH_KIND = 3, SIZE = 4, STORE = 5;
    private static final int FAULTS_OF_TEXTS = -1000100;
    private static final int JOINT = 1, CARVED = 2, HIDDEN = 3, WAX = 4, BOUGHT = 5;
    private static final int MOST_PARTS = 7, MOST_ELDERS = 5, NO_PART = 7, MOST_SKILL = 20;
    private static final int LESSON_PRICE = 3;

    private final Rows rows = new Rows();
    private final Tape tape = new Tape();
    private final Trial now = new Trial();
    private final Trial firstImage = new Trial();
    private final Trial secondImage = new Trial();
    private final Trial scratch = new Trial();
    private final Acts acts = new Acts();
    private final Plan plan = new Plan();
    private final Bodies bodies = new Bodies();
    private int latestFault;
    private int latestFinding;

    public GuildPiece() {
    }

    // ---- rows

    public int row(int row, int lane, int n) {
        if (!isRow(row) || lane < 0 || lane > 2 || n > Rows.LONGEST) {
            return BAD;
        }
        if (n < 0) {
            return finding(SIZE);
        }
        rows.lay(row, lane, n);
        return clean(n);
    }

    public int set(int row, int i, int v) {
        if (!isRow(row)) {
            return BAD;
        }
        if (!rows.there[row]) {
            return finding(NULL);
        }
        if (!rows.holds(row, i, 1)) {
            return finding(PLACE);
        }
        return clean(rows.put(row, i, v));
    }

    public int copy(int a, int i, int b, int j, int n) {
        if (!isRow(a) || !isRow(b)) {
            return BAD;
        }
        if (!rows.there[a] || !rows.there[b]) {
            return finding(NULL);
        }
        if (rows.lanes[a] != rows.lanes[b]) {
            return finding(STORE);
        }
        if (!rows.holds(a, i, n) || !rows.holds(b, j, n)) {
            return finding(PLACE);
        }
        rows.carry(a, i, b, j, n);
        return clean(n);
    }

    public int drop(int row) {
        if (!isRow(row)) {
            return BAD;
        }
        if (!rows.there[row]) {
            return finding(NULL);
        }
        rows.there[row] = false;
        return clean(rows.sizes[row]);
    }

    // ---- what is told

    public int feed(int letter) {
        if (letter < 0 || letter > 255) {
            return BAD;
        }
        if (tape.length >= Tape.LONGEST) {
            return FULL;
        }
        return tape.append(letter);
    }

    public int trial() {
        boolean whole = tape.readInto(scratch);
        tape.length = 0;
        if (!whole) {
            latestFault = tape.fault;
            return FAULTS_OF_TEXTS - tape.place;
        }
        now.copyFrom(scratch);
        acts.forget();
        return now.parts;
    }

    public int fault() {
        return latestFault;
    }

    public int undo() {
        if (acts.kept <= 0) {
            return STATE;
        }
        return acts.takeBack(now);
    }

    // ---- what is done

    public int make(int part) {
        if (!isPart(part)) {
            return BAD;
        }
        if (!now.mayBuild(part)) {
            return STATE;
        }
        acts.keep(now);
        return now.build(part);
    }

    public int mend(int part) {
        if (!isPart(part)) {
            return BAD;
        }
        if (bit(now.faulty, part) == 0 || now.days < now.mendingDays(part)) {
            return STATE;
        }
        acts.keep(now);
        now.days -= now.mendingDays(part);
        now.faulty &= ~(1 << part);
        return now.days;
    }

    public int feast(int elder) {
        if (!isElder(elder)) {
            return BAD;
        }
        if (bit(now.feasted, elder) == 1 || now.money < now.prices[elder]) {
            return STATE;
        }
        acts.keep(now);
        now.money -= now.prices[elder];
        now.feasted |= 1 << elder;
        return now.money;
    }

    public int idle(int n) {
        if (!now.told) {
            return STATE;
        }
        if (n < 1 || n > 20) {
            return BAD;
        }
        if (now.days < n) {
            return STATE;
        }
        for (int day = 0; day < n; day++) {
            acts.keep(now);
            now.days--;
        }
        return now.days;
    }

    public int lesson() {
        if (!now.told || now.money < LESSON_PRICE || now.days < 1 || now.skill >= MOST_SKILL) {
            return STATE;
        }
        acts.keep(now);
        now.money -= LESSON_PRICE;
        now.days--;
        now.skill++;
        return now.skill;
    }

    public int part(int part, int what) {
        if (!isPart(part)) {
            return BAD;
        }
        switch (what) {
            case 0:
                return now.needs[part];
            case 1:
                return now.times[part];
            case 2:
                return now.aheads[part] == NO_PART ? NONE : now.aheads[part];
            case 3:
                return bit(now.made, part);
            case 4:
                return bit(now.faulty, part);
            case 5:
                return taken(now.kinds[part], now.needs[part], now.times[part], now.skill);
            case 6:
                return flawed(now.kinds[part], now.needs[part], now.skill) ? 1 : 0;
            case 7:
                return now.mayBuild(part) ? 1 : 0;
            default:
                return BAD;
        }
    }

    public int elder(int elder, int what) {
        if (!isElder(elder)) {
            return BAD;
        }
        switch (what) {
            case 0:
                return now.eyes[elder];
            case 1:
                return now.milds[elder];
            case 2:
                return now.prices[elder];
            case 3:
                return bit(now.feasted, elder);
            case 4:
                return now.finds(elder, now.faulty);
            case 5:
                return bit(now.votes(now.faulty, now.feasted), elder);
            default:
                return BAD;
        }
    }

    public int stand(int what) {
        if (!now.told) {
            return STATE;
        }
        switch (what) {
            case 0:
                return now.skill;
            case 1:
                return now.days;
            case 2:
                return now.money;
            case 3:
                return now.made;
            case 4:
                return now.faulty;
            case 5:
                return now.votes(now.faulty, now.feasted);
            case 6:
                return now.passes() ? 1 : 0;
            default:
                return BAD;
        }
    }

    // ---- foretold

    public int fewest(int what) {
        if (!now.told) {
            return STATE;
        }
        if (what < 0 || what > 2) {
            return BAD;
        }
        plan.reckon(now, 0);
        if (!plan.ends) {
            return NONE;
        }
        if (what == 0) {
            return plan.faults;
        }
        if (what == 1) {
            return plan.days;
        }
        return plan.first == NO_PART ? NONE : plan.first;
    }

    public int can() {
        if (!now.told) {
            return STATE;
        }
        plan.reckon(now, 0);
        return plan.reached & ~now.made;
    }

    public int feasts(int what) {
        if (!now.told) {
            return STATE;
        }
        if (!isOneOfTwo(what)) {
            return BAD;
        }
        int which = cheapestFeasts();
        return which == NONE || what == 1 ? which : Integer.bitCount(which);
    }

    public int mends(int what) {
        if (!now.told) {
            return STATE;
        }
        if (!isOneOfTwo(what)) {
            return BAD;
        }
        int which = leastMends();
        return which == NONE || what == 1 ? which : Integer.bitCount(which);
    }

    public int decides() {
        if (!now.told) {
            return STATE;
        }
        int votes = now.votes(now.faulty, now.feasted);
        boolean wins = now.wins(votes);
        int deciding = 0;
        for (int e = 0; e < now.elders; e++) {
            if (now.wins(votes ^ (1 << e)) != wins) {
                deciding |= 1 << e;
            }
        }
        return deciding;
    }

    public int whereIs(int row, int i, int what) {
        if (!now.told) {
            return STATE;
        }
        if (!isRow(row) || !isOneOfTwo(what)) {
            return BAD;
        }
        if (!rows.there[row]) {
            return finding(NULL);
        }
        if (!rows.holds(row, i, now.elders)) {
            return finding(PLACE);
        }
        int many = 0;
        int least = NONE;
        for (int faults = 0; faults <= now.made; faults++) {
            if ((faults & ~now.made) == 0 && isFoundAsTold(row, i, faults)) {
                if (many == 0) {
                    least = faults;
                }
                many++;
            }
        }
        return clean(what == 0 ? many : least);
    }

    public int skills(int row, int i, int n) {
        if (!now.told) {
            return STATE;
        }
        if (!isRow(row) || n < 1 || n > 6) {
            return BAD;
        }
        if (!rows.there[row]) {
            return finding(NULL);
        }
        if (!rows.holds(row, i, 2 * n)) {
            return finding(PLACE);
        }
        for (int k = 0; k < n; k++) {
            if (!isPart(rows.item(row, i + 2 * k))) {
                return BAD;
            }
        }
        int fitting = 0;
        for (int skill = 0; skill <= MOST_SKILL; skill++) {
            if (isMadeAsTold(row, i, n, skill)) {
                fitting |= 1 << skill;
            }
        }
        return clean(fitting);
    }

    public int who(int part, int row, int i, int n) {
        if (!isPart(part) || !isRow(row) || n < 1 || n > 8) {
            return BAD;
        }
        if (!rows.there[row]) {
            return finding(NULL);
        }
        if (!rows.holds(row, i, 3 * n)) {
            return finding(PLACE);
        }
        for (int k = 0; k < n; k++) {
            int skill = rows.item(row, i + 3 * k);
            if (skill < 0 || skill > MOST_SKILL) {
                return BAD;
            }
        }
        int fitting = 0;
        for (int kind = JOINT; kind <= BOUGHT; kind++) {
            if (isTakenAsTold(part, kind, row, i, n)) {
                fitting |= 1 << kind;
            }
        }
        return clean(fitting);
    }

    public long err(int p, int what) {
        if (!now.told) {
            return STATE;
        }
        if (p < 0 || p > 10 || !isOneOfTwo(what)) {
            return BAD;
        }
        int votes = now.votes(now.faulty, now.feasted);
        long above = 0;
        long below = 1;
        for (int e = 0; e < now.elders; e++) {
            below *= 10;
        }
        for (int turned = 0; turned < 1 << now.elders; turned++) {
            if (now.wins(votes ^ turned)) {
                above += casesOf(turned, p);
            }
        }
        long shared = commonDivisor(above, below);
        if (shared <= 0) {
            return BAD;
        }
        return what == 0 ? above / shared : below / shared;
    }

    public int worth(int days) {
        if (!now.told) {
            return STATE;
        }
        if (days < 0 || days > 20) {
            return BAD;
        }
        plan.reckon(now, days);
        return plan.ends ? plan.faults : NONE;
    }

    public int drawn(int n, int seed, int what) {
        if (!now.told) {
            return STATE;
        }
        if (n < 0 || n > 30 || seed < 1 || seed > 999999 || !isOneOfTwo(what)) {
            return BAD;
        }
        scratch.copyFrom(now);
        long x = seed;
        for (int draw = 0; draw < n; draw++) {
            x = x * 16807L % 2147483647L;
            scratch.buildDrawn(x);
        }
        return what == 0 ? scratch.made : Integer.bitCount(scratch.faulty);
    }

    public int image(int k) {
        if (!isOneOfTwo(k)) {
            return BAD;
        }
        if (!now.told) {
            return STATE;
        }
        imageOf(k).copyFrom(now);
        return 1;
    }

    public int restore(int k) {
        if (!isOneOfTwo(k)) {
            return BAD;
        }
        if (!imageOf(k).told) {
            return STATE;
        }
        now.copyFrom(imageOf(k));
        acts.forget();
        return 1;
    }

    // ---- asked

    public int kind(int one) {
        return isPart(one) ? now.kinds[one] : BAD;
    }

    public int as(int one, int kind) {
        if (!isPart(one) || kind < 0 || kind > BOUGHT) {
            return BAD;
        }
        return bit(kindsThatAre(now.kinds[one]), kind) == 1 ? clean(one) : finding(NO_SUCH_KIND);
    }

    public int ask(int one, int what) {
        if (!isPart(one) || !isOneOfTwo(what)) {
            return BAD;
        }
        bodies.takeUp(now, one);
        int body = what == 0 ? Bodies.ofSize(now.kinds[one]) : Bodies.ofMark(now.kinds[one]);
        return bodies.give(body, 0);
    }

    public int trace(int i) {
        return i >= 0 && i < bodies.length ? bodies.numbers[i] : NONE;
    }

    public int count(int what) {
        switch (what) {
            case 0:
                return rows.howMany();
            case 1:
                return now.parts;
            case 2:
                return now.elders;
            case 3:
                return now.made;
            case 4:
                return now.days;
            case 5:
                return now.money;
            case 6:
                return acts.kept;
            case 7:
                return tape.length;
            default:
                return BAD;
        }
    }

    public int status() {
        return latestFinding;
    }

    // ---- what calls share

    private int finding(int number) {
        latestFinding = number;
        return FINDINGS - number;
    }

    /** The answer of a call that could have had a finding and had none. */
    private int clean(int answer) {
        latestFinding = 0;
        return answer;
    }

    private static boolean isRow(int row) {
        return row >= 0 && row < Rows.MOST;
    }

    private static boolean isOneOfTwo(int number) {
        return number == 0 || number == 1;
    }

    private boolean isPart(int part) {
        return part >= 0 && part < now.parts;
    }

    private boolean isElder(int elder) {
        return elder >= 0 && elder < now.elders;
    }

    private static int bit(int set, int number) {
        return (set >> number) & 1;
    }

    private Trial imageOf(int k) {
        return k == 0 ? firstImage : secondImage;
    }

    // ---- the kinds

    /** All the kinds (bits) that one of this kind is, itself among them. */
    private static int kindsThatAre(int kind) {
        int part = 1;
        switch (kind) {
            case JOINT:
                return part | 1 << JOINT;
            case CARVED:
                return part | 1 << JOINT | 1 << CARVED;
            case HIDDEN:
                return part | 1 << JOINT | 1 << HIDDEN;
            case WAX:
                return part | 1 << WAX;
            case BOUGHT:
                return part | 1 << WAX | 1 << BOUGHT;
            default:
                return part;
        }
    }

    /** The days that one of this kind takes; of a bought one the money. */
    private static int taken(int kind, int need, int time, int skill) {
        if (kind == CARVED && skill < need) {
            return 2 * time;
        }
        return kind == WAX ? time / 2 + 1 : time;
    }

    private static boolean flawed(int kind, int need, int skill) {
        switch (kind) {
            case CARVED:
                return skill + 5 < need;
            case WAX:
                return true;
            case BOUGHT:
                return need > 10;
            default:
                return skill < need;
        }
    }

    /** Whether an elder of this eye finds the fault of one of this kind. */
    private static boolean seen(int kind, int need, int eye) {
        switch (kind) {
            case HIDDEN:
                return eye >= need;
            case WAX:
                return eye > 10;
            case BOUGHT:
                return eye > 15;
            default:
                return true;
        }
    }

    private static int skillBehind(int kind, int skill) {
        return kind == BOUGHT ? skill : Math.min(MOST_SKILL, skill + 1);
    }

    // ---- what the foretelling calls look through

    private int cheapestFeasts() {
        int which = NONE;
        int fewest = 0;
        int cheapest = 0;
        for (int guests = 0; guests < 1 << now.elders; guests++) {
            int many = Integer.bitCount(guests);
            int cost = now.feastingMoney(guests);
            boolean better = which == NONE || many < fewest || many == fewest && cost < cheapest;
            if (better && (guests & now.feasted) == 0 && cost <= now.money
                    && now.wins(now.votes(now.faulty, now.feasted | guests))) {
                which = guests;
                fewest = many;
                cheapest = cost;
            }
        }
        return which;
    }

    private int leastMends() {
        int which = NONE;
        int fewest = 0;
        for (int mended = 0; mended <= now.faulty; mended++) {
            int many = Integer.bitCount(mended);
            boolean better = which == NONE || many < fewest;
            if (better && (mended & ~now.faulty) == 0 && now.mendingDaysOf(mended) <= now.days
                    && now.wins(now.votes(now.faulty & ~mended, now.feasted))) {
                which = mended;
                fewest = many;
            }
        }
        return which;
    }

    private boolean isFoundAsTold(int row, int i, int faults) {
        for (int e = 0; e < now.elders; e++) {
            if (now.finds(e, faults) != rows.item(row, i + e)) {
                return false;
            }
        }
        return true;
    }

    private boolean isMadeAsTold(int row, int i, int n, int skillNow) {
        int skill = skillNow;
        int made = now.made;
        for (int k = 0; k < n; k++) {
            int part = rows.item(row, i + 2 * k);
            if (!isPart(part) || bit(made, part) == 1 || !now.isReady(part, made)) {
                return false;
            }
            int kind = now.kinds[part];
            int fault = flawed(kind, now.needs[part], skill) ? 1 : 0;
            if (fault != rows.item(row, i + 2 * k + 1)) {
                return false;
            }
            made |= 1 << part;
            skill = skillBehind(kind, skill);
        }
        return true;
    }

    private boolean isTakenAsTold(int part, int kind, int row, int i, int n) {
        for (int k = 0; k < n; k++) {
            int at = i + 3 * k;
            int skill = rows.item(row, at);
            int fault = flawed(kind, now.needs[part], skill) ? 1 : 0;
            if (taken(kind, now.needs[part], now.times[part], skill) != rows.item(row, at + 1)
                    || fault != rows.item(row, at + 2)) {
                return false;
            }
        }
        return true;
    }

    /** In how many of 10 to the elders cases just these vote otherwise. */
    private long casesOf(int turned, int p) {
        long cases = 1;
        for (int e = 0; e < now.elders; e++) {
            cases *= bit(turned, e) == 1 ? p : 10 - p;
        }
        return cases;
    }

    private static long commonDivisor(long a, long b) {
        long greater = a;
        long less = b;
        for (int step = 0; step < 100 && less != 0; step++) {
            long rest = greater % less;
            greater = less;
            less = rest;
        }
        return greater;
    }

    /** The rows 0 to 7; a missing one keeps its room for the next. */
    private static final class Rows {
        private static final int MOST = 8, LONGEST = 40;

        private final boolean[] there = new boolean[MOST];
        private final int[] lanes = new int[MOST];
        private final int[] sizes = new int[MOST];
        private final int[] items = new int[MOST * LONGEST];

        private void lay(int row, int lane, int n) {
            there[row] = true;
            lanes[row] = lane;
            sizes[row] = n;
            for (int i = 0; i < n; i++) {
                items[row * LONGEST + i] = 0;
            }
        }

        /** Whether n places from i on lie in the row; no sum, so that none wraps around. */
        private boolean holds(int row, int i, int n) {
            return i >= 0 && n >= 0 && n <= sizes[row] && i <= sizes[row] - n;
        }

        private int item(int row, int i) {
            return holds(row, i, 1) ? items[row * LONGEST + i] : 0;
        }

        private int put(int row, int i, int v) {
            int kept = lanes[row] == 0 ? (byte) v : lanes[row] == 1 ? (short) v : v;
            items[row * LONGEST + i] = kept;
            return kept;
        }

        private void carry(int a, int i, int b, int j, int n) {
            System.arraycopy(items, a * LONGEST + i, items, b * LONGEST + j, n);
        }

        private int howMany() {
            int many = 0;
            for (int row = 0; row < MOST; row++) {
                many += there[row] ? 1 : 0;
            }
            return many;
        }
    }

    /** A trial as it stands: what was told, and what has become of it. Untold at first. */
    private static final class Trial {
        private boolean told;
        private int skill;
        private int days;
        private int money;
        private int parts;
        private int elders;
        private int made;
        private int faulty;
        private int feasted;
        private final int[] kinds = new int[MOST_PARTS];
        private final int[] needs = new int[MOST_PARTS];
        private final int[] times = new int[MOST_PARTS];
        private final int[] aheads = new int[MOST_PARTS];
        private final int[] eyes = new int[MOST_ELDERS];
        private final int[] milds = new int[MOST_ELDERS];
        private final int[] prices = new int[MOST_ELDERS];
        /** Of each elder the parts (bits) whose faults he finds: never changes in a trial. */
        private final int[] sights = new int[MOST_ELDERS];

        private void clear() {
            told = false;
            skill = 0;
            days = 0;
            money = 0;
            parts = 0;
            elders = 0;
            made = 0;
            faulty = 0;
            feasted = 0;
        }

        private void copyFrom(Trial other) {
            told = other.told;
            skill = other.skill;
            days = other.days;
            money = other.money;
            parts = other.parts;
            elders = other.elders;
            made = other.made;
            faulty = other.faulty;
            feasted = other.feasted;
            for (int p = 0; p < MOST_PARTS; p++) {
                kinds[p] = other.kinds[p];
                needs[p] = other.needs[p];
                times[p] = other.times[p];
                aheads[p] = other.aheads[p];
            }
            for (int e = 0; e < MOST_ELDERS; e++) {
                eyes[e] = other.eyes[e];
                milds[e] = other.milds[e];
                prices[e] = other.prices[e];
                sights[e] = other.sights[e];
            }
        }

        private void addPart(int kind, int need, int time, int ahead) {
            kinds[parts] = kind;
            needs[parts] = need;
            times[parts] = time;
            aheads[parts] = ahead;
            parts++;
        }

        /** Elders are told behind all parts, so that what each can find is known here. */
        private void addElder(int eye, int mild, int price) {
            eyes[elders] = eye;
            milds[elders] = mild;
            prices[elders] = price;
            sights[elders] = 0;
            for (int p = 0; p < parts; p++) {
                if (seen(kinds[p], needs[p], eye)) {
                    sights[elders] |= 1 << p;
                }
            }
            elders++;
        }

        /** Whether what must be ahead of a part is in a set, or nothing must be. */
        private boolean isReady(int p, int set) {
            return aheads[p] == NO_PART || bit(set, aheads[p]) == 1;
        }

        private boolean mayBuild(int p) {
            if (bit(made, p) == 1 || !isReady(p, made)) {
                return false;
            }
            return taken(kinds[p], needs[p], times[p], skill) <= (kinds[p] == BOUGHT ? money : days);
        }

        private int build(int p) {
            int takes = taken(kinds[p], needs[p], times[p], skill);
            boolean fault = flawed(kinds[p], needs[p], skill);
            if (kinds[p] == BOUGHT) {
                money -= takes;
            } else {
                days -= takes;
            }
            skill = skillBehind(kinds[p], skill);
            made |= 1 << p;
            if (fault) {
                faulty |= 1 << p;
            }
            return fault ? 1 : 0;
        }

        private void buildDrawn(long x) {
            if (parts <= 0) {
                return;
            }
            int p = (int) (x % parts);
            if (!mayBuild(p)) {
                return;
            }
            build(p);
            if (x % 5 == 0) {
                faulty |= 1 << p;
            }
        }

        private int mendingDays(int p) {
            return times[p] + 1;
        }

        private int mendingDaysOf(int set) {
            int sum = 0;
            for (int p = 0; p < parts; p++) {
                sum += bit(set, p) == 1 ? mendingDays(p) : 0;
            }
            return sum;
        }

        private int feastingMoney(int guests) {
            int sum = 0;
            for (int e = 0; e < elders; e++) {
                sum += bit(guests, e) == 1 ? prices[e] : 0;
            }
            return sum;
        }

        private int finds(int e, int faults) {
            return Integer.bitCount(faults & sights[e]);
        }

        private int votes(int faults, int guests) {
            int votes = 0;
            for (int e = 0; e < elders; e++) {
                if (bit(guests, e) == 1 || finds(e, faults) <= milds[e]) {
                    votes |= 1 << e;
                }
            }
            return votes;
        }

        private boolean wins(int votes) {
            return elders == 0 || 2 * Integer.bitCount(votes) > elders;
        }

        private boolean passes() {
            return made == (1 << parts) - 1 && wins(votes(faulty, feasted));
        }
    }

    /** The tape, and how it is read: token by token, up to the first fault. */
    private static final class Tape {
        private static final int LONGEST = 120, NO_OTHER = -1;

        private final int[] letters = new int[LONGEST];
        private int length;
        private int at;
        private int fault;
        private int place;
        private int number;
        private int first;
        private int second;
        private int third;

        private int append(int letter) {
            letters[length] = letter;
            length++;
            return length;
        }

        /** Reads all of it; a fault leaves a trial that must not be used, and where it is. */
        private boolean readInto(Trial t) {
            t.clear();
            at = 0;
            if (!readLaw(t)) {
                return false;
            }
            for (int told = 0; told <= LONGEST && at < length; told++) {
                if (!readOne(t)) {
                    return false;
                }
            }
            if (t.parts == 0) {
                return fail(1);
            }
            t.told = true;
            return true;
        }

        private boolean readLaw(Trial t) {
            if (!readLetter('g') || !readThree(0, 60, 0, 99, NO_OTHER)) {
                return false;
            }
            t.skill = first;
            t.days = second;
            t.money = third;
            return true;
        }

        private boolean readOne(Trial t) {
            int letter = letterAt(at);
            int kind = kindOf(letter);
            if (kind != 0 && t.elders == 0) {
                return t.parts < MOST_PARTS ? readPart(t, kind) : fail(3);
            }
            if (letter == 'e' && t.parts > 0) {
                return t.elders < MOST_ELDERS ? readElder(t) : fail(3);
            }
            return fail(1);
        }

        /** The part that must be ahead is one of those told so far, or none. */
        private boolean readPart(Trial t, int kind) {
            at++;
            if (!readThree(1, 20, 0, t.parts - 1, NO_PART)) {
                return false;
            }
            t.addPart(kind, first, second, third);
            return true;
        }

        private boolean readElder(Trial t) {
            at++;
            if (!readThree(0, 7, 1, 50, NO_OTHER)) {
                return false;
            }
            t.addElder(first, second, third);
            return true;
        }

        /** Three numbers and their signs: of law, parts and elders alike the first is 0 to 20. */
        private boolean readThree(int leastSecond, int mostSecond, int leastThird, int mostThird, int orThird) {
            if (!readNumber(0, 20, NO_OTHER) || !readLetter(',')) {
                return false;
            }
            first = number;
            if (!readNumber(leastSecond, mostSecond, NO_OTHER) || !readLetter(',')) {
                return false;
            }
            second = number;
            if (!readNumber(leastThird, mostThird, orThird) || !readLetter(';')) {
                return false;
            }
            third = number;
            return true;
        }

        private boolean readLetter(int letter) {
            if (letterAt(at) != letter) {
                return fail(1);
            }
            at++;
            return true;
        }

        /** A number from least to most, or one other that may stand there too; of a run three figures tell enough. */
        private boolean readNumber(int least, int most, int other) {
            int figures = 0;
            number = 0;
            while (figures < 3 && isFigure(letterAt(at + figures))) {
                number = 10 * number + letterAt(at + figures) - '0';
                figures++;
            }
            if (figures < 1 || figures > 2) {
                return fail(1);
            }
            if ((number < least || number > most) && number != other) {
                return fail(2);
            }
            at += figures;
            return true;
        }

        private boolean fail(int why) {
            fault = why;
            place = at;
            return false;
        }

        /** Behind the end stands no letter, so nothing is ever read as if it did. */
        private int letterAt(int i) {
            return i >= 0 && i < length && i < LONGEST ? letters[i] : -1;
        }

        private static boolean isFigure(int letter) {
            return letter >= '0' && letter <= '9';
        }

        private static int kindOf(int letter) {
            switch (letter) {
                case 'j':
                    return JOINT;
                case 'c':
                    return CARVED;
                case 'h':
                    return HIDDEN;
                case 'w':
                    return WAX;
                case 'b':
                    return BOUGHT;
                default:
                    return 0;
            }
        }
    }

    /** The acts that can be undone: how the trial stood ahead of each, in a ring. */
    private static final class Acts {
        private static final int MOST = 24, EACH = 6;

        private final int[] stood = new int[MOST * EACH];
        private int kept;
        private int next;

        private void forget() {
            kept = 0;
        }

        private void keep(Trial t) {
            int at = next * EACH;
            stood[at] = t.skill;
            stood[at + 1] = t.days;
            stood[at + 2] = t.money;
            stood[at + 3] = t.made;
            stood[at + 4] = t.faulty;
            stood[at + 5] = t.feasted;
            next = next + 1 < MOST ? next + 1 : 0;
            kept = Math.min(MOST, kept + 1);
        }

        private int takeBack(Trial t) {
            next = next > 0 ? next - 1 : MOST - 1;
            kept--;
            int at = next * EACH;
            t.skill = stood[at];
            t.days = stood[at + 1];
            t.money = stood[at + 2];
            t.made = stood[at + 3];
            t.faulty = stood[at + 4];
            t.feasted = stood[at + 5];
            return kept;
        }
    }

    /**
     * All rows of parts that may be made one behind another. Skill and money are the
     * same for every order of one set of parts, so of those that come to a set with as
     * many faults the one with most days left is never worse: only that is kept.
     */
    private static final class Plan {
        private static final int COUNTS = MOST_PARTS + 1, UNREACHED = -1;

        /** By set and faults: 8 times the days left, and 7 less the first part of the row. */
        private final int[] best = new int[(1 << MOST_PARTS) * COUNTS];
        private int reached;
        private boolean ends;
        private int faults;
        private int days;
        private int first;

        private void reckon(Trial t, int moreDays) {
            int all = (1 << t.parts) - 1;
            for (int i = 0; i < (all + 1) * COUNTS; i++) {
                best[i] = UNREACHED;
            }
            best[t.made * COUNTS + Integer.bitCount(t.faulty)] = 8 * (t.days + moreDays);
            reached = 0;
            for (int set = t.made; set <= all; set++) {
                if (isReached(set)) {
                    reached |= set;
                    goOnFrom(t, set);
                }
            }
            conclude(all);
        }

        private boolean isReached(int set) {
            for (int k = 0; k < COUNTS; k++) {
                if (best[set * COUNTS + k] != UNREACHED) {
                    return true;
                }
            }
            return false;
        }

        private void goOnFrom(Trial t, int set) {
            int skill = t.skill;
            int money = t.money;
            for (int p = 0; p < t.parts; p++) {
                if (bit(set & ~t.made, p) == 1) {
                    skill = skillBehind(t.kinds[p], skill);
                    money -= t.kinds[p] == BOUGHT ? t.times[p] : 0;
                }
            }
            for (int p = 0; p < t.parts; p++) {
                boolean bought = t.kinds[p] == BOUGHT;
                int takes = taken(t.kinds[p], t.needs[p], t.times[p], skill);
                if (bit(set, p) == 0 && t.isReady(p, set) && (!bought || takes <= money)) {
                    int fault = flawed(t.kinds[p], t.needs[p], skill) ? 1 : 0;
                    addPart(set, p, bought ? 0 : takes, fault, set == t.made);
                }
            }
        }

        private void addPart(int set, int p, int takes, int fault, boolean isFirst) {
            int from = set * COUNTS;
            int to = (set | 1 << p) * COUNTS;
            for (int k = 0; k + fault < COUNTS; k++) {
                int stood = best[from + k];
                if (stood != UNREACHED && stood >> 3 >= takes) {
                    int left = (stood >> 3) - takes;
                    int begun = isFirst ? NO_PART - p : stood & 7;
                    best[to + k + fault] = Math.max(best[to + k + fault], 8 * left + begun);
                }
            }
        }

        private void conclude(int all) {
            ends = false;
            for (int k = 0; k < COUNTS && !ends; k++) {
                int stood = best[all * COUNTS + k];
                if (stood != UNREACHED) {
                    ends = true;
                    faults = k;
                    days = stood >> 3;
                    first = NO_PART - (stood & 7);
                }
            }
        }
    }

    /** The bodies by which a part is asked, and the trace they leave. */
    private static final class Bodies {
        private static final int LONGEST = 16, DEEPEST = 8;

        private final int[] numbers = new int[LONGEST];
        private int length;
        private int part;
        private int kind;
        private int need;
        private int time;

        private void takeUp(Trial t, int p) {
            length = 0;
            part = p;
            kind = t.kinds[p];
            need = t.needs[p];
            time = t.times[p];
        }

        private void begin(int number) {
            if (length < LONGEST) {
                numbers[length] = number;
                length++;
            }
        }

        /** Which body begins when one of this kind is asked its size. */
        private static int ofSize(int kind) {
            switch (kind) {
                case JOINT:
                case HIDDEN:
                    return 11;
                case CARVED:
                    return 12;
                case WAX:
                    return 13;
                case BOUGHT:
                    return 14;
                default:
                    return 10;
            }
        }

        /** Which body begins when one of this kind is asked its mark. */
        private static int ofMark(int kind) {
            switch (kind) {
                case JOINT:
                    return 21;
                case HIDDEN:
                    return 22;
                case WAX:
                case BOUGHT:
                    return 23;
                case CARVED:
                    return 24;
                default:
                    return 20;
            }
        }

        /** What a body gives, by the document's numbers; those within it begin from left to right. */
        private int give(int body, int depth) {
            if (depth > DEEPEST) {
                return NONE;
            }
            begin(body);
            switch (body) {
                case 10:
                    return time;
                case 11:
                    return give(10, depth + 1) + give(ofMark(kind), depth + 1);
                case 12:
                    return 0 - give(11, depth + 1);
                case 13:
                    return give(10, depth + 1) - 100;
                case 14:
                    return 2 * give(13, depth + 1);
                case 20:
                    return part;
                case 21:
                    return give(20, depth + 1) + need;
                case 22:
                    return give(21, depth + 1) - 1000;
                case 23:
                    return give(20, depth + 1) - give(ofSize(kind), depth + 1);
                case 24:
                    return 2 * give(21, depth + 1);
                default:
                    return NONE;
            }
        }
    }
}
