/** Every sentence of the document, tested at its bounds. */
public final class BoundsTest {
    private BoundsTest() {
    }

    public static void main(String[] args) {
        TermsBounds.run();
        RulesBounds.run();
        StudioBounds.run();
        OddsBounds.run();
        ChangeBounds.run();
        TellBounds.run();
        Bound.end();
        Check.end();
    }
}
