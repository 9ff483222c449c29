import java.io.IOException;

/** A test for each sentence of the document that names an edge; see Edges for how a sentence is found. */
final class EdgeTest {
    private EdgeTest() {
    }

    public static void main(String[] args) throws IOException {
        Edges.readDocument();
        Edges.untested("What it is", "A shop of layers: a language of making steps that lays, coats, cuts, undercuts, turns and fills stuffs "
            + "on a board of little cubes, through masks drawn by figures; programs that want something and are undone whole when they do not get it; "
            + "cross-cuts printed, stacks told by spans, wires found as nets with what is joined and what is not, "
            + "devices found by the order of their stuffs, thin places, pieces that float.");
        EdgesOfBoard.all();
        EdgesOfMasks.all();
        EdgesOfTexts.all();
        EdgesOfSteps.all();
        EdgesOfRuns.all();
        EdgesOfNets.all();
        EdgesOfOut.all();
        EdgesOfRefusals.all();
        Edges.allIsSaid();
        Due.end();
    }
}
