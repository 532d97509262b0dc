import java.util.ArrayList;
import java.util.List;
import java.util.function.Consumer;

/**
 * Whether a call left all as it was: of two objects that were built alike one is called, then both
 * tell all that they can (up to 512 calls), and must tell the same. Beside it are status() and fault().
 */
final class Unchanged {
    private static final String TEXT = "g3,30,9;j5,2,7;c9,3,0;h9,1,7;w2,4,7;b11,2,7;e9,0,4;e16,2,30;";

    static boolean by(Consumer<GuildPiece> built, Consumer<GuildPiece> call) {
        GuildPiece as = new GuildPiece();
        GuildPiece is = new GuildPiece();
        built.accept(as);
        built.accept(is);
        call.accept(is);
        return all(as).equals(all(is));
    }

    /** Nothing was ever told. */
    static void untold(GuildPiece x) {
        x.row(0, 2, 2);
        x.set(0, 1, 5);
        x.row(1, 0, 1);
    }

    /** Some of everything: rows of two lanes, parts made, a fault mended, an elder feasted, acts, an image, a trace. */
    static void rich(GuildPiece x) {
        Check.tell(x, TEXT);
        Check.lay(x, 0, 1, 2, 3);
        Check.lay(x, 1, 4, 5);
        x.row(2, 0, 2);
        x.set(2, 1, 6);
        x.row(3, 2, 0);
        x.make(3);
        x.image(0);
        x.make(0);
        x.feast(0);
        x.mend(3);
        x.idle(1);
        x.ask(1, 0);
    }

    /** As rich, but not a day, nor money for anything, nor an act that could be undone; one text had a fault. */
    static void poor(GuildPiece x) {
        Check.tell(x, "g21");
        Check.tell(x, "g20,2,0;w0,1,7;j9,1,0;c9,1,7;b0,1,7;e0,0,1;");
        Check.lay(x, 0, 1, 2);
        x.make(0);
        x.image(1);
        x.idle(1);
        x.image(0);
        x.restore(0);
    }

    /** As rich, with a tape that is begun. */
    static void begun(GuildPiece x) {
        rich(x);
        x.feed('g');
        x.feed('2');
    }

    /** A tape that has no room. */
    static void full(GuildPiece x) {
        Check.lay(x, 0, 3);
        for (int i = 0; i < 120; i++) {
            x.feed("g20,60,99;c20,20,7;".charAt(i % 19));
        }
    }

    private static List<Long> all(GuildPiece x) {
        List<Long> told = new ArrayList<>();
        counts(x, told);
        trial(x, told);
        foretold(x, told);
        for (int act = 0; act < 9; act++) {
            add(told, x.undo());
            stands(x, told);
        }
        for (int k = 0; k < 2; k++) {
            add(told, x.restore(k));
            stands(x, told);
        }
        add(told, Check.tell(x, "0,9,9;j0,1,7;"));
        counts(x, told);
        RowsBounds.makeTeller(x);
        rows(x, told);
        return told;
    }

    private static void add(List<Long> told, long... answers) {
        for (long answer : answers) {
            told.add(answer);
        }
    }

    private static void counts(GuildPiece x, List<Long> told) {
        for (int what = 0; what < 8; what++) {
            add(told, x.count(what));
        }
    }

    private static void stands(GuildPiece x, List<Long> told) {
        for (int what = 0; what < 7; what++) {
            add(told, x.stand(what));
        }
        add(told, x.elder(0, 3), x.elder(1, 3));
    }

    private static void trial(GuildPiece x, List<Long> told) {
        stands(x, told);
        for (int p = 0; p < x.count(1); p++) {
            add(told, x.kind(p), x.part(p, 0), x.part(p, 1), x.part(p, 2), x.part(p, 4), x.part(p, 7));
        }
        for (int e = 0; e < x.count(2); e++) {
            add(told, x.elder(e, 0), x.elder(e, 1), x.elder(e, 2), x.elder(e, 4));
        }
        for (int i = 0; i < 8; i++) {
            add(told, x.trace(i));
        }
    }

    private static void foretold(GuildPiece x, List<Long> told) {
        add(told, x.fewest(1), x.can(), x.feasts(1), x.mends(1), x.decides(), x.err(3, 0), x.worth(9));
    }

    private static void rows(GuildPiece x, List<Long> told) {
        for (int row = 0; row < 5; row++) {
            for (int i = 0; i < 4; i++) {
                add(told, RowsBounds.item(x, row, i));
            }
            add(told, x.set(row, 0, 40000), x.drop(row));
        }
        add(told, x.count(0));
    }
}
