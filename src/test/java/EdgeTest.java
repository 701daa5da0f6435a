/** Every sentence of the document that names a boundary, by a case of its own. */
public final class EdgeTest {
    private EdgeTest() {
    }

    public static void main(String[] args) throws IllegalAccessException {
        Cases cases = new Cases();
        cases.run(PageEdges.class);
        cases.run(MinistryEdges.class);
        cases.run(PeopleEdges.class);
        cases.run(StepsEdges.class);
        cases.run(DoneEdges.class);
        cases.run(FarEdges.class);
        cases.run(SendEdges.class);
        cases.run(PairsEdges.class);
        cases.run(MeetEdges.class);
        cases.run(SeenEdges.class);
        cases.run(DaysEdges.class);
        cases.run(ImageEdges.class);
        cases.run(CountEdges.class);
        cases.end("EdgeTest");
    }
}
