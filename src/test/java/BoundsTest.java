/** Every sentence of the document, the bounds that it names, and what stands behind a refused call. */
public final class BoundsTest {
    private BoundsTest() {
    }

    public static void main(String[] args) throws Exception {
        Check check = new Check();
        Doc doc = new Doc(check);
        new RowsBounds(doc).hold();
        new TextBounds(doc).hold();
        new ActsBounds(doc).hold();
        new ForetoldBounds(doc).hold();
        new ToldBounds(doc).hold();
        new AskedBounds(doc).hold();
        new Refusals(doc).hold();
        new Readings(doc).hold();
        doc.allIsQuoted();
        check.end();
    }
}
