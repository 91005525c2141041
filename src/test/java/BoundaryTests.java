/**
 * Each sentence of the document has a test that quotes it, and each refused call changes nothing.
 * The tests stand in src/test/boundaries, by the parts of the document.
 */
public final class BoundaryTests {
    public static void main(String[] args) throws Exception {
        Check.open(new Document());
        ImageBoundaries.run();
        BakeBoundaries.run();
        MachineBoundaries.run();
        int wrong = Check.countWrong();
        if (wrong > 0) {
            System.out.println(wrong + " boundary cases are wrong");
            System.exit(1);
        }
        System.out.println("all boundary cases hold");
    }
}
