/** Each sentence of the document that names an edge has a test here, which bears the name of its promise or chapter. */
public final class EdgesTest {
    private static final String[] CHAPTERS = {"What it is", "The public face", "Lines", "Formats", "Alignments", "Merging", 
        "Fitting", "Groups", "Exceptions"};

    public static void main(String[] args) {
        FaceEdges.run();
        LineEdges.run();
        AlignmentEdges.run();
        FormatEdges.run();
        SlotEdges.run();
        CountEdges.run();
        GroupEdges.run();
        for (int promise = 1; promise <= 31; promise++) {
            Edges.CHECK.same("promise " + promise + " has a test", Edges.isNamed("Promise " + promise), true);
        }
        for (String chapter : CHAPTERS) {
            Edges.CHECK.same("the chapter '" + chapter + "' has a test", Edges.isNamed(chapter), true);
        }
        System.out.println("EdgesTest: " + Edges.count() + " tests, each of a sentence");
        Edges.CHECK.finish();
    }
}
