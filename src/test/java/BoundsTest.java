import java.io.IOException;

/** Each sentence of the document by a test of its own, at its bounds; the parts go by the document's sections. */
public final class BoundsTest {
    public static void main(String[] args) throws IOException {
        Sentences s = new Sentences();
        new TermsBounds(s).all();
        new RowsBounds(s).all();
        new TextBounds(s).all();
        new ActsBounds(s).all();
        new DoneBounds(s).all();
        new ForetoldBounds(s).all();
        new ForetoldCallBounds(s).all();
        new AskedBounds(s).all();
        s.end();
    }
}
