/**
 * A test for each sentence of the document that names a boundary: at the numbers just and far in and out of what it
 * names, at none and at all; behind a refused call all others answer as before.
 */
public final class BoundaryTest {
    public static void main(String[] args) throws Exception {
        Sentences sentences = new Sentences();
        sentences.run(TermRows.class);
        sentences.run(MeaningRows.class);
        sentences.run(ChangeRows.class);
        sentences.run(ParameterRows.class);
        sentences.run(BlockRows.class);
        sentences.run(SpaceRows.class);
        sentences.run(CodeRows.class);
        sentences.run(MoveRows.class);
        sentences.run(GroupRows.class);
        sentences.run(SurfaceRows.class);
        sentences.leaveNoRowOut();
        sentences.leaveNoTermOut();
        Check.end("BoundaryTest");
    }
}
