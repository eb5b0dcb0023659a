/** Each sentence of the document that names a bound, on both sides of it; and no word of the document is left without a test. */
public final class BoundsTest {
    public static void main(String[] args) {
        DaysBounds.run();
        LawBounds.run();
        HandBounds.run();
        RoadBounds.run();
        HeapBounds.run();
        TellBounds.run();
        JudgeBounds.run();
        CountBounds.run();
        for (String words : Doc.unheld()) {
            Due.no("no test holds " + words, true);
        }
        Due.end("BoundsTest");
    }
}
