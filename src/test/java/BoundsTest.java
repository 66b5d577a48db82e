/** Every sentence of the document that names a bound, on either side of it; what is refused changes nothing. */
public final class BoundsTest {
    public static void main(String[] args) {
        RowBounds.run();
        TextBounds.run();
        ActBounds.run();
        DayBounds.run();
        ForetoldBounds.run();
        AskedBounds.run();
        Doc.dueAllNamed();
        Sun.end("BoundsTest");
    }
}
