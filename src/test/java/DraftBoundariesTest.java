import java.util.Arrays;

/** The sentences on vertices, drafts and which drafts are a geometry: one method for each that names a boundary. */
public final class DraftBoundariesTest extends Scenes {
    private static final String VERTEX_REFUSED = "-1, refused, if a coordinate is not 0 .. 255 or 6 are there.";
    private static final String NEIGHBOURS =
        "two sides of which one begins where the other one ends have no other point in common";
    private static final String OTHER_SIDES = "and any other two sides have none";
    private static final int[] NO_COORDINATES = {-1, -2, -256, 256, 257, 511, 65536, LEAST, LEAST + 1, GREATEST};
    private static final int[] NO_KINDS = {-1, 3, 4, 256, LEAST, GREATEST};
    // A line over none of its vertices twice: its first n vertices are a line too.
    private static final int[] STEPS = {10, 10, 20, 12, 30, 10, 40, 12, 50, 10, 60, 12};

    public static void main(String[] args) {
        newDraft();
        coordinates();
        appends();
        badCoordinates();
        fullDraft();
        focusOrNone();
        noSuchKind();
        draftBecomesEmpty();
        becomesFocus();
        focusStays();
        counts();
        countsOfLines();
        countsOfAreas();
        firstThatHolds();
        equalInLines();
        equalInAreas();
        linesMayTouchThemselves();
        neighboursFoldBack();
        neighboursGoStraightOn();
        otherSidesHaveNone();
        otherSidesJustApart();
        checks.end();
    }

    private static int[] first(int vertices) {
        return Arrays.copyOf(STEPS, 2 * vertices);
    }

    private static void newDraft() {
        says("Promise 1", "Empty tables, no draft, no focus, no results.");
        for (int kind = POINT; kind <= AREA; kind++) {
            due("a shape of no vertices", 1, new SpatialTables().shape(kind));
        }
        due("the first vertex", 1, new SpatialTables().vertex(5, 5));
        SpatialTables t = new SpatialTables();
        due("no focus to insert", -1, t.insert(0, 1));
        due("no focus to select by", -1, t.select(0, 0, 0, 0));
        due("no focus to be near to", -1, t.nearest(0, 1));
        due("no row", 0, t.rows(0) | t.rows(1));
        due("no result", -1, t.result(0));
    }

    private static void coordinates() {
        says(TERMS, "A VERTEX has two coordinates x, y, 0 .. 255 each.");
        SpatialTables t = withRow(POINT, 0, 0);
        int[] ends = {0, 1, 254, 255};
        for (int x : ends) {
            for (int y : ends) {
                due("vertex " + x + " " + y, 1, t.vertex(x, y));
                due("it is a point", 0, t.shape(POINT));
                due("the point is there", x * x + y * y, t.measure(0, 0));
            }
        }
    }

    private static void appends() {
        says("Promise 2", "Appends a vertex to the draft: how many it has then.");
        SpatialTables t = new SpatialTables();
        for (int round = 0; round < 3; round++) {
            for (int count = 1; count <= 6; count++) {
                due("the same vertex again", count, t.vertex(7, 7));
            }
            t.shape(POINT);
        }
        t.vertex(1, 1);
        t.vertex(2, 1);
        t.crash();
        due("after a crash", 1, t.vertex(3, 3));
        due("appended behind", 2, t.vertex(3, 8));
        t.shape(LINE);
        t.insert(0, 1);
        draw(t, POINT, 1, 1);
        due("the line is from 3 3 to 3 8", 8, t.measure(0, 0));
        draw(t, POINT, 3, 9);
        due("the line ends at 3 8", 1, t.measure(0, 0));
    }

    private static void badCoordinates() {
        says("Promise 2", VERTEX_REFUSED);
        for (int bad : NO_COORDINATES) {
            SpatialTables t = new SpatialTables();
            due("x of " + bad, -1, t.vertex(bad, 5));
            due("y of " + bad, -1, t.vertex(5, bad));
            due("both of " + bad, -1, t.vertex(bad, bad));
            due("the draft is still empty", 1, t.vertex(20, 20));
            due("x of " + bad + " later", -1, t.vertex(bad, 255));
            due("y of " + bad + " later", -1, t.vertex(0, bad));
            due("the draft has one still", 2, t.vertex(20, 30));
            due("and is a line", 0, t.shape(LINE));
            t.insert(0, 1);
            draw(t, POINT, 0, 25);
            due("of the good vertices alone", 400, t.measure(0, 0));
        }
    }

    private static void fullDraft() {
        says("Promise 2", VERTEX_REFUSED);
        SpatialTables t = new SpatialTables();
        addVertices(t, first(5));
        due("the sixth", 6, t.vertex(60, 12));
        due("the seventh", -1, t.vertex(100, 100));
        due("the seventh again", -1, t.vertex(0, 0));
        due("full and bad", -1, t.vertex(-1, 256));
        due("six are a line", 0, t.shape(LINE));
        t.insert(0, 1);
        draw(t, POINT, 100, 12);
        due("it ends at the sixth", 1600, t.measure(0, 0));
        draw(t, POINT, 0, 10);
        due("it begins at the first", 100, t.measure(0, 0));
    }

    private static void focusOrNone() {
        says(TERMS, "There are a DRAFT, a list of at most 6 vertices, and a FOCUS, which is a geometry or none.");
        SpatialTables t = new SpatialTables();
        addVertices(t, first(6));
        due("a full draft is no focus", -1, t.insert(0, 1));
        due("more than six", -1, t.vertex(70, 10));
        due("six are a focus", 0, t.shape(LINE));
        due("the focus is put in", 0, t.insert(0, 1));
        due("the focus stays the focus", 1, t.insert(0, 1));
        addVertices(t, 200, 200);
        due("the next draft is not yet the focus", 0, t.measure(0, 0));
        t.crash();
        due("none", -1, t.insert(0, 1));
    }

    private static void noSuchKind() {
        says("Promise 3", "-1, refused, if there is no such kind (POINT, LINE, AREA).");
        for (int kind : NO_KINDS) {
            for (int count = 0; count <= 6; count++) {
                SpatialTables t = withRow(POINT, 10, 10);
                addVertices(t, first(count));
                due("kind " + kind + " of " + count, -1, t.shape(kind));
                due("the focus stays", 0, t.measure(0, 0));
                due("the draft stays", count < 6 ? count + 1 : -1, t.vertex(70, 10));
            }
        }
    }

    private static void draftBecomesEmpty() {
        says("Promise 3", "Otherwise the draft becomes empty");
        SpatialTables t = new SpatialTables();
        due("no vertices", 1, t.shape(POINT));
        due("empty after none", 1, t.vertex(1, 1));
        due("a point", 0, t.shape(POINT));
        due("empty after 0", 1, t.vertex(1, 1));
        due("too few", 1, t.shape(LINE));
        due("empty after 1", 1, t.vertex(1, 1));
        t.vertex(1, 1);
        due("equal ones", 2, t.shape(LINE));
        due("empty after 2", 1, t.vertex(0, 0));
        addVertices(t, 9, 9, 9, 0, 0, 9);
        due("a bow tie", 3, t.shape(AREA));
        due("empty after 3", 1, t.vertex(1, 1));
        addVertices(t, 2, 2, 3, 1, 4, 2, 5, 1, 6, 2);
        due("six of one", 1, t.shape(POINT));
        due("empty after six", 1, t.vertex(1, 1));
    }

    private static void becomesFocus() {
        says("Promise 3", "if its vertices were a geometry of the kind, that is the focus now, and the answer is 0.");
        SpatialTables t = withRow(POINT, 0, 0);
        due("a point", 0, draw(t, POINT, 3, 4));
        due("is the focus", 25, t.measure(0, 0));
        due("a line", 0, draw(t, LINE, 0, 10, 10, 0));
        due("is the focus", 50, t.measure(0, 0));
        due("an area", 0, draw(t, AREA, 6, 8, 20, 20, 6, 20));
        due("is the focus", 100, t.measure(0, 0));
        due("a point again", 0, draw(t, POINT, 0, 1));
        due("is the focus", 1, t.measure(0, 0));
    }

    private static void focusStays() {
        says("Promise 3", "If not, the focus stays");
        SpatialTables t = new SpatialTables();
        wrongShapes(t);
        due("none stays none", -1, t.insert(0, 1));
        draw(t, POINT, 50, 50);
        t.insert(0, 1);
        draw(t, POINT, 50, 57);
        wrongShapes(t);
        due("a point stays", 49, t.measure(0, 0));
        t.insert(0, 2);
        draw(t, POINT, 50, 50);
        due("the row got the focus that stayed", 49, t.measure(0, 1));
    }

    private static void wrongShapes(SpatialTables t) {
        due("1", 1, draw(t, POINT));
        due("1", 1, draw(t, LINE, 50, 50));
        due("2", 2, draw(t, LINE, 50, 50, 50, 50));
        due("3", 3, draw(t, AREA, 50, 50, 60, 60, 60, 50, 50, 60));
    }

    private static void counts() {
        says("Promise 3", "1 if there were not as many vertices as the kind has");
        for (int count = 0; count <= 6; count++) {
            SpatialTables t = new SpatialTables();
            due("a point of " + count, count == 1 ? 0 : 1, draw(t, POINT, first(count)));
            due("its focus", count == 1 ? 0 : -1, t.insert(0, 1));
        }
    }

    private static void countsOfLines() {
        says(TERMS, "a LINE of 2 to 6 vertices, no two successive ones equal");
        for (int count = 0; count <= 6; count++) {
            SpatialTables t = new SpatialTables();
            due("a line of " + count, count >= 2 ? 0 : 1, draw(t, LINE, first(count)));
            due("its focus", count >= 2 ? 0 : -1, t.insert(0, 1));
        }
    }

    private static void countsOfAreas() {
        says(TERMS, "or an AREA of 3 to 6 vertices");
        int[] round = {10, 10, 20, 5, 30, 10, 32, 20, 20, 30, 8, 20};
        for (int count = 0; count <= 6; count++) {
            SpatialTables t = new SpatialTables();
            int[] xy = Arrays.copyOf(round, 2 * count);
            due("an area of " + count, count >= 3 ? 0 : 1, draw(t, AREA, xy));
            due("its focus", count >= 3 ? 0 : -1, t.insert(0, 1));
        }
    }

    private static void firstThatHolds() {
        says("Promise 3", "the answer is the first of these that holds");
        SpatialTables t = new SpatialTables();
        due("too many and equal", 1, draw(t, POINT, 5, 5, 5, 5));
        due("too few and equal", 1, draw(t, AREA, 5, 5, 5, 5));
        due("too few, and sides over one another", 1, draw(t, AREA, 5, 5, 9, 9));
        due("equal and flat", 2, draw(t, AREA, 5, 5, 9, 5, 9, 5));
        due("all equal", 2, draw(t, AREA, 5, 5, 5, 5, 5, 5));
        due("equal and crossing", 2, draw(t, AREA, 0, 0, 9, 9, 9, 0, 0, 9, 0, 9));
        due("crossing, and last equals first", 2, draw(t, AREA, 0, 0, 9, 9, 9, 0, 0, 9, 0, 0));
        due("crossing before the equal ones", 2, draw(t, AREA, 0, 0, 9, 9, 9, 0, 0, 9, 0, 5, 0, 5));
    }

    private static void equalInLines() {
        says("Promise 3", "2 if successive vertices were equal");
        for (int count = 2; count <= 6; count++) {
            for (int at = 1; at < count; at++) {
                due("line of " + count + ", equal at " + at, 2, draw(new SpatialTables(), LINE, doubled(count, at)));
            }
        }
        SpatialTables t = new SpatialTables();
        due("equal x alone", 0, draw(t, LINE, 5, 5, 5, 6));
        due("equal y alone", 0, draw(t, LINE, 5, 5, 6, 5));
        due("x and y changed over", 0, draw(t, LINE, 5, 6, 6, 5));
        due("equal, but not successive", 0, draw(t, LINE, 5, 5, 6, 6, 5, 5));
        due("a line's last one may be its first one", 0, draw(t, LINE, 5, 5, 9, 5, 9, 9, 5, 5));
        due("equal at 0", 2, draw(t, LINE, 0, 0, 0, 0));
        due("equal at 255", 2, draw(t, LINE, 255, 255, 255, 255));
    }

    /** The first vertices of STEPS, but that vertex 'at' is the one before it once more. */
    private static int[] doubled(int count, int at) {
        int[] xy = first(count);
        xy[2 * at] = xy[2 * at - 2];
        xy[2 * at + 1] = xy[2 * at - 1];
        return xy;
    }

    private static void equalInAreas() {
        says(TERMS, "In an area successive vertices (the first one comes after the last one) are not equal");
        allTurns("three", 2, 0, 0, 0, 0, 5, 5);
        allTurns("four", 2, 0, 0, 9, 0, 9, 9, 9, 9);
        allTurns("five", 2, 0, 0, 9, 0, 9, 9, 0, 9, 0, 9);
        allTurns("six", 2, 0, 0, 9, 0, 9, 9, 5, 12, 5, 12, 0, 9);
        allTurns("equal, but not successive", 3, 0, 0, 9, 0, 0, 0, 0, 9);
    }

    private static void linesMayTouchThemselves() {
        says("Promise 3", "3 if (in an area) sides had points in common that they may not have.");
        SpatialTables t = new SpatialTables();
        due("a line that crosses itself", 0, draw(t, LINE, 0, 0, 9, 9, 9, 0, 0, 9));
        due("a line there and back", 0, draw(t, LINE, 0, 0, 9, 0, 0, 0));
        due("a line that folds back", 0, draw(t, LINE, 0, 0, 9, 0, 3, 0, 5, 0));
        due("the same as an area", 3, draw(t, AREA, 0, 0, 9, 9, 9, 0, 0, 9));
    }

    /** Draws an area from each vertex on, in both directions and with x and y changed over: always the same. */
    private static void allTurns(String what, int want, int... xy) {
        int count = xy.length / 2;
        for (int from = 0; from < count; from++) {
            for (int way = 0; way < 4; way++) {
                SpatialTables t = new SpatialTables();
                for (int i = 0; i < count; i++) {
                    int at = way % 2 == 0 ? (from + i) % count : (from + count - i) % count;
                    t.vertex(xy[2 * at + way / 2], xy[2 * at + 1 - way / 2]);
                }
                due(what + ", from " + from + ", way " + way, want, t.shape(AREA));
                due(what + ", its focus", want == 0 ? 0 : -1, t.insert(0, 1));
            }
        }
    }

    private static void neighboursFoldBack() {
        says(TERMS, NEIGHBOURS);
        allTurns("a flat triangle", 3, 0, 0, 4, 0, 2, 0);
        allTurns("a flat slanting triangle", 3, 0, 0, 4, 6, 2, 3);
        allTurns("back to the middle", 3, 0, 0, 8, 0, 4, 0, 4, 4);
        allTurns("back beyond the beginning", 3, 4, 0, 8, 0, 0, 0, 4, 6);
        allTurns("back all the way", 3, 0, 0, 8, 0, 0, 0, 4, 6);
        allTurns("one step back on a slant", 3, 0, 0, 255, 255, 254, 254, 255, 0);
        allTurns("a spike of five", 3, 0, 0, 4, 0, 9, 0, 4, 0, 4, 4);
        allTurns("a spike of six", 3, 0, 0, 9, 0, 9, 9, 5, 9, 5, 15, 5, 12);
    }

    private static void neighboursGoStraightOn() {
        says(TERMS, NEIGHBOURS);
        allTurns("straight on", 0, 0, 0, 4, 0, 8, 0, 8, 8);
        allTurns("straight on at a slant", 0, 0, 0, 3, 2, 6, 4, 0, 9);
        allTurns("straight on three times", 0, 0, 0, 1, 1, 2, 2, 3, 3, 3, 0);
        allTurns("straight on at both ends of a side", 0, 0, 0, 2, 0, 7, 0, 9, 0, 5, 9);
        allTurns("the thinnest triangle", 0, 0, 0, 255, 254, 1, 1);
        allTurns("another thin triangle", 0, 0, 0, 255, 1, 254, 1);
        allTurns("the least triangle", 0, 0, 0, 1, 0, 0, 1);
        allTurns("the greatest triangle", 0, 0, 0, 255, 0, 0, 255);
    }

    private static void otherSidesHaveNone() {
        says(TERMS, OTHER_SIDES);
        allTurns("a bow tie", 3, 0, 0, 9, 9, 9, 0, 0, 9);
        allTurns("crossing off the whole numbers", 3, 0, 0, 3, 1, 3, 0, 0, 2);
        allTurns("a bow tie all over the plane", 3, 0, 0, 255, 255, 255, 0, 0, 255);
        allTurns("a vertex on another side", 3, 0, 0, 8, 0, 8, 8, 4, 0, 0, 8);
        allTurns("a vertex on a slanting side", 3, 0, 0, 9, 6, 9, 9, 3, 2, 0, 9);
        allTurns("a vertex twice", 3, 0, 0, 4, 4, 8, 0, 8, 8, 4, 4, 0, 8);
        allTurns("a vertex twice, the other way round", 3, 0, 0, 8, 0, 4, 4, 8, 8, 0, 8, 4, 4);
        allTurns("one side in another one", 3, 0, 0, 8, 0, 8, 4, 6, 0, 2, 0, 0, 4);
        allTurns("two sides over one another in part", 3, 0, 0, 6, 0, 8, 4, 9, 0, 4, 0, 4, 9);
        allTurns("the same side twice", 3, 0, 0, 6, 0, 9, 9, 6, 0, 0, 0, 0, 9);
        allTurns("a pentagram", 3, 5, 0, 8, 9, 0, 3, 10, 3, 2, 9);
        allTurns("six that cross once", 3, 2, 0, 7, 0, 7, 9, 9, 4, 2, 9, 0, 4);
        allTurns("six, crossing just at the end", 3, 0, 0, 10, 0, 10, 10, 5, 0, 4, 8, 0, 10);
    }

    private static void otherSidesJustApart() {
        says(TERMS, OTHER_SIDES);
        allTurns("a vertex just beside a side", 0, 0, 0, 255, 254, 0, 255, 1, 1, 0, 2);
        allTurns("the same one on the side", 3, 0, 0, 254, 254, 0, 255, 1, 1, 0, 2);
        allTurns("two sides of one straight line", 0, 0, 0, 2, 0, 3, 2, 4, 0, 6, 0, 3, 6);
        allTurns("a bay one wide", 0, 0, 0, 9, 0, 9, 9, 5, 1, 4, 1, 0, 9);
        allTurns("a bay down to one off the other side", 0, 0, 0, 8, 0, 8, 8, 4, 1, 0, 8);
        allTurns("all of the plane", 0, 0, 0, 255, 0, 255, 255, 0, 255);
        allTurns("a comb", 0, 0, 0, 9, 0, 9, 5, 1, 1, 8, 5, 0, 5);
    }
}
