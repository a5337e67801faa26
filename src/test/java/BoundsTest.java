import java.io.IOException;

/** Each sentence of the document that names a boundary case, with cases of its own; no word is left out. */
public final class BoundsTest {
    public static void main(String[] args) throws IOException {
        Cases cases = new Cases();
        new OrderBounds(cases).run();
        new TextBounds(cases).run();
        new LandBounds(cases).run();
        new WheelBounds(cases).run();
        new FairBounds(cases).run();
        new ReadingBounds(cases).run();
        new SheetBounds(cases).run();
        cases.end();
    }
}
