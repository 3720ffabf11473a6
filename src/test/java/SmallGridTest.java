import java.util.ArrayList;
import java.util.List;

/** Each draft of 3 to 5 vertices of a small grid as an area, compared with the model: nothing is left to chance. */
public final class SmallGridTest extends Scenes {
    private static final int SIDE = 3;
    private static final int PLACES = SIDE * SIDE;
    // An object is promised to answer 512 calls; a draft of five takes six.
    private static final int DRAFTS_OF_AN_OBJECT = 80;

    private SpatialTables t = new SpatialTables();

    public static void main(String[] args) {
        says("Promise 3", "the answer is the first of these that holds");
        new SmallGridTest().compare(3);
        new SmallGridTest().compare(4);
        new SmallGridTest().compare(5);
        checks.end();
    }

    private void compare(int vertices) {
        int drafts = (int) Math.round(Math.pow(PLACES, vertices));
        for (int draft = 0; draft < drafts; draft++) {
            if (draft % DRAFTS_OF_AN_OBJECT == 0) {
                t = new SpatialTables();
            }
            compareDraft(vertices, draft);
        }
    }

    /** The digits of the draft's number are its vertices. */
    private void compareDraft(int vertices, int draft) {
        List<Model.Vertex> drawn = new ArrayList<>();
        int digits = draft;
        for (int i = 0; i < vertices; i++) {
            int x = digits % PLACES % SIDE;
            int y = digits % PLACES / SIDE;
            digits /= PLACES;
            drawn.add(new Model.Vertex(x, y));
            t.vertex(x, y);
        }
        due(drawn.toString(), new Model.Shape(AREA, drawn).fault(), t.shape(AREA));
    }
}
