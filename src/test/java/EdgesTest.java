/** Every sentence of the document has a test of its own, at its edges above all. */
final class EdgesTest {
    public static void main(String[] args) {
        DayEdges.run();
        FunctionEdges.run();
        PlanEdges.run();
        PageEdges.run();
        SlipEdges.run();
        CheckEdges.run();
        LeastEdges.run();
        HandEdges.run();
        PressEdges.run();
        OtherEdges.run();
        SheetEdges.run();
        BestEdges.run();
        Edge.allIsQuoted();
        Due.end("EdgesTest");
    }
}
