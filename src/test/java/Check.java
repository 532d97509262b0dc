/** Counts what is not as due; the tests of the project have this in common. */
final class Check {
    private final String name;
    private int looked;
    private int wrong;

    Check(String name) {
        this.name = name;
    }

    void due(String call, long got, long want) {
        looked++;
        if (got != want) {
            wrong++;
            System.out.println(name + ": " + call + " answered " + got + ", due is " + want);
        }
    }

    void holds(String what, boolean so) {
        due(what, so ? 1 : 0, 1);
    }

    void end() {
        System.out.println(name + ": " + looked + " looked at, " + wrong + " not as due");
        if (wrong != 0 || looked == 0) {
            System.exit(1);
        }
    }

    /** Feeds a text and reads it. */
    static int tell(GuildPiece x, String text) {
        for (int i = 0; i < text.length(); i++) {
            x.feed(text.charAt(i));
        }
        return x.trial();
    }

    /** A new object to which a text was told that must have no fault. */
    static GuildPiece told(String text) {
        GuildPiece x = new GuildPiece();
        if (tell(x, text) < 0) {
            throw new IllegalStateException("a test's own text has a fault: " + text);
        }
        return x;
    }

    /** A row of ints with these items. */
    static void lay(GuildPiece x, int row, int... items) {
        x.row(row, 2, items.length);
        for (int i = 0; i < items.length; i++) {
            x.set(row, i, items[i]);
        }
    }

    static final int NONE = -1000000, BAD = -1000001, STATE = -1000002, FULL = -1000003;
    static final int NULL = -1000011, PLACE = -1000012, KIND = -1000013, SIZE = -1000014, STORE = -1000015;
}
