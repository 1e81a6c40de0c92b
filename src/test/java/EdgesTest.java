import java.nio.file.Path;

/** Each sentence of the document that names an edge, in the document's order, with the answers that are due there. */
public final class EdgesTest {
    public static void main(String[] args) throws Exception {
        Sentences says = new Sentences("EdgesTest", Path.of("../shared/DOC.md"));
        new TextEdges(says).all();
        new ActEdges(says).all();
        new AskEdges(says).all();
        says.terms("The constants: `NONE = -1`: None.");
        says.due("NONE", AimFerry.NONE, -1);
        new CallEdges(says).all();
        new QuestionEdges(says).all();
        says.finish();
    }
}
