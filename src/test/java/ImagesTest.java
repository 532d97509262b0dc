/** Promises 29 and 30: image, restore. */
public final class ImagesTest {
    private static final Check c = new Check("images");

    public static void main(String[] args) {
        refused();
        keptAndRestored();
        restoredAgain();
        c.end();
    }

    private static void refused() {
        GuildPiece x = new GuildPiece();
        c.due("image(2)", x.image(2), Check.BAD);
        c.due("image(-1)", x.image(-1), Check.BAD);
        c.due("image(0) of no trial", x.image(0), Check.STATE);
        c.due("restore(2)", x.restore(2), Check.BAD);
        c.due("restore(-1)", x.restore(-1), Check.BAD);
        c.due("restore(1) of none", x.restore(1), Check.STATE);
        Check.tell(x, "g1,2,3;j0,1,7;");
        c.due("restore(0) of none", x.restore(0), Check.STATE);
        c.due("image(0)", x.image(0), 1);
        c.due("restore(1) of none yet", x.restore(1), Check.STATE);
        c.due("restore(0)", x.restore(0), 1);
    }

    private static void keptAndRestored() {
        GuildPiece x = Check.told("g1,20,30;j9,1,7;c3,2,0;e4,1,6;");
        x.make(0);
        x.feast(0);
        c.due("image(1)", x.image(1), 1);
        c.due("acts stay", x.count(6), 2);
        x.mend(0);
        x.make(1);
        x.row(2, 0, 5);
        x.feed('g');
        Check.tell(x, "1,1,1;w5,6,7;");
        c.due("another trial", x.count(1), 1);
        x.feed('g');
        c.due("restore(1)", x.restore(1), 1);
        int[] stands = {2, 19, 24, 1, 1, 1, 0};
        for (int what = 0; what < stands.length; what++) {
            c.due("stand " + what, x.stand(what), stands[what]);
        }
        c.due("parts", x.count(1), 2);
        c.due("elders", x.count(2), 1);
        c.due("kind", x.kind(1), 2);
        c.due("need", x.part(1, 0), 3);
        c.due("time", x.part(1, 1), 2);
        c.due("ahead", x.part(1, 2), 0);
        c.due("eye", x.elder(0, 0), 4);
        c.due("mild", x.elder(0, 1), 1);
        c.due("price", x.elder(0, 2), 6);
        c.due("feasted", x.elder(0, 3), 1);
        c.due("finds", x.elder(0, 4), 1);
        c.due("no act can be undone", x.undo(), Check.STATE);
        c.due("rows stay", x.count(0), 1);
        c.due("the tape stays", x.count(7), 1);
    }

    private static void restoredAgain() {
        GuildPiece x = Check.told("g1,20,30;j9,1,7;j0,1,7;");
        x.image(0);
        x.make(0);
        x.image(1);
        x.make(1);
        c.due("restore(0)", x.restore(0), 1);
        c.due("nothing is made", x.count(3), 0);
        x.idle(5);
        c.due("restore(1)", x.restore(1), 1);
        c.due("one is made", x.count(3), 1);
        x.make(1);
        c.due("restore(1) again", x.restore(1), 1);
        c.due("the image did not change", x.count(3), 1);
        c.due("restore(0) again", x.restore(0), 1);
        c.due("nor did this one", x.stand(1), 20);
        c.due("image(1) in place of that", x.image(1), 1);
        x.make(0);
        c.due("restore(1)", x.restore(1), 1);
        c.due("it is the new one", x.count(3), 0);
    }
}
