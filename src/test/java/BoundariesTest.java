/** Each sentence of the document that names a boundary: an input just inside it, and one just outside. */
final class BoundariesTest {
    public static void main(String[] args) {
        StreamBoundaries.test();
        SlotBoundaries.test();
        ReadingBoundaries.test();
        Sentences.finish();
    }
}
