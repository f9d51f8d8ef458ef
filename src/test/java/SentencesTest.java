import java.io.IOException;

/** A test for each boundary case that the document names, under its promise and its words. */
public final class SentencesTest {
    public static void main(String[] args) throws IOException {
        Edges edges = new Edges(new Document(Project.document()));
        DescriptionEdges.run(edges);
        CreationEdges.run(edges);
        ReadEdges.run(edges);
        WriteEdges.run(edges);
        CopyEdges.run(edges);
        WholeColumnEdges.run(edges);
        CodesAndKindsEdges.run(edges);
        DigestEdges.run(edges);
        edges.tellWhatIsNotQuoted();
        Check.end();
    }
}
