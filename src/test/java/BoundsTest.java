/** Every sentence of the document, each with a test of its own: at what it bounds and on either side of it. */
public final class BoundsTest {
    public static void main(String[] args) {
        try {
            TextBounds.run();
            HiringBounds.run();
            DayBounds.run();
            PlanBounds.run();
            HeardBounds.run();
            SheetBounds.run();
            RefusalBounds.run();
        } catch (RuntimeException e) {
            Doc.threw(e);
        }
        Doc.end();
    }
}
