/** The sentences on which points a geometry has, on meeting and on the squared distance, and promise 12 on measure. */
public final class GeometryBoundariesTest extends Scenes {
    private static final String WITHIN =
        "all points on its sides (from each vertex to the next one, and from the last one to the first one) and"
        + " within them";
    private static final String MEET = "Two geometries MEET if they have a point in common.";
    private static final String LEAST_SQUARE =
        "the least square of the straight distance from a point of the one to a point of the other (0 if they meet)";
    private static final String EXACT = "it is exact and need not be a whole number";

    private record Shape(int kind, int... xy) { }

    public static void main(String[] args) {
        pointOfOneVertex();
        pointsOfALine();
        areaWithABay();
        areaOnItsTip();
        areaLikeACrown();
        areaLikeAComb();
        leastAreas();
        linesMeet();
        linesCrossInOneSquare();
        linesDoNotMeet();
        areasMeet();
        areasDoNotMeet();
        linesMeetAreas();
        squaresOfPoints();
        squaresOfSides();
        squaresAreExact();
        squaresNearWholeNumbers();
        greatestWholeNumber();
        nothingToMeasure();
        checks.end();
    }

    private static Shape point(int x, int y) {
        return new Shape(POINT, x, y);
    }

    private static Shape line(int... xy) {
        return new Shape(LINE, xy);
    }

    private static Shape area(int... xy) {
        return new Shape(AREA, xy);
    }

    /** The squared distance is top / bottom: by measure and by select, from either one and from the other. */
    private static void square(String what, long top, long bottom, Shape one, Shape two) {
        squareFrom(what, top, bottom, one, two);
        squareFrom(what + ", the other way", top, bottom, two, one);
    }

    private static void squareFrom(String what, long top, long bottom, Shape row, Shape focus) {
        SpatialTables t = withRow(row.kind, row.xy);
        due(what + ", is drawn", 0, draw(t, focus.kind, focus.xy));
        int whole = (int) (top / bottom);
        due(what + ", measured", whole, t.measure(0, 0));
        due(what + ", at most the whole part", top % bottom == 0 ? 1 : 0, t.select(0, whole, 1, 1));
        due(what + ", at most one more", 1, t.select(0, whole + 1, 1, 1));
        if (whole > 0) {
            due(what + ", at most one less", 0, t.select(0, whole - 1, 1, 1));
        }
    }

    private static void meet(String what, Shape one, Shape two) {
        square(what, 0, 1, one, two);
    }

    private static void pointOfOneVertex() {
        says(TERMS, "A geometry is a POINT of one vertex");
        meet("the same point", point(7, 9), point(7, 9));
        meet("the same corner", point(255, 0), point(255, 0));
        square("one off in x", 1, 1, point(7, 9), point(8, 9));
        square("one off in y", 1, 1, point(7, 9), point(7, 8));
        square("from corner to corner", 130050, 1, point(0, 0), point(255, 255));
        square("from the other corner", 130050, 1, point(0, 255), point(255, 0));
    }

    private static void pointsOfALine() {
        says(TERMS, "all points of the straight SIDES from each vertex to the next one");
        Shape line = line(10, 10, 16, 14, 30, 14);
        meet("the first vertex", line, point(10, 10));
        meet("between", line, point(13, 12));
        meet("the middle vertex", line, point(16, 14));
        meet("on the second side", line, point(29, 14));
        meet("the last vertex", line, point(30, 14));
        square("straight on behind the end", 1, 1, line, point(31, 14));
        square("straight on before the beginning", 13, 1, line, point(7, 8));
        square("straight on from the first side", 4, 1, line, point(19, 16));
        Shape closed = line(10, 10, 20, 10, 20, 20, 10, 20, 10, 10);
        square("within a closed line", 25, 1, closed, point(15, 15));
        Shape open = line(10, 10, 20, 10, 20, 20, 10, 20);
        square("no side from the last one to the first one", 9, 1, open, point(10, 13));
        Shape back = line(10, 10, 20, 10, 10, 10);
        meet("there and back", back, point(15, 10));
        square("there and back has no within", 1, 1, back, point(15, 11));
    }

    /** Compares each point 0 .. 9 of the plane: '#' is in the area; the top line has the greatest y. */
    private static void picture(String what, int[] xy, String... lines) {
        int count = xy.length / 2;
        for (int from = 0; from < count; from++) {
            for (int step : new int[] {1, count - 1}) {
                int[] turned = new int[xy.length];
                for (int i = 0; i < count; i++) {
                    int at = (from + i * step) % count;
                    turned[2 * i] = xy[2 * at];
                    turned[2 * i + 1] = xy[2 * at + 1];
                }
                compare(what + ", from " + from + " by " + step, turned, lines);
            }
        }
    }

    private static void compare(String what, int[] xy, String... lines) {
        SpatialTables t = withRow(AREA, xy);
        for (int y = 0; y < lines.length; y++) {
            String line = lines[lines.length - 1 - y];
            for (int x = 0; x < line.length(); x++) {
                draw(t, POINT, x, y);
                due(what + ", in at " + x + " " + y, line.charAt(x) == '#', t.select(0, 0, 1, 1) == 1);
            }
        }
    }

    private static void areaWithABay() {
        says(TERMS, WITHIN);
        picture("a bay", new int[] {1, 1, 8, 1, 8, 8, 6, 8, 6, 3, 1, 3},
            "..........",
            "......###.",
            "......###.",
            "......###.",
            "......###.",
            "......###.",
            ".########.",
            ".########.",
            ".########.",
            "..........");
    }

    private static void areaOnItsTip() {
        says(TERMS, WITHIN);
        picture("on its tip", new int[] {4, 0, 8, 4, 4, 8, 0, 4},
            "..........",
            "....#.....",
            "...###....",
            "..#####...",
            ".#######..",
            "#########.",
            ".#######..",
            "..#####...",
            "...###....",
            "....#.....");
    }

    private static void areaLikeACrown() {
        says(TERMS, WITHIN);
        picture("a crown", new int[] {0, 2, 8, 2, 8, 8, 4, 4, 0, 8},
            "..........",
            "#.......#.",
            "##.....##.",
            "###...###.",
            "####.####.",
            "#########.",
            "#########.",
            "#########.",
            "..........",
            "..........");
    }

    private static void areaLikeAComb() {
        says(TERMS, WITHIN);
        picture("a comb", new int[] {0, 0, 4, 4, 8, 0, 8, 4, 4, 8, 0, 4},
            "..........",
            "....#.....",
            "...###....",
            "..#####...",
            ".#######..",
            "#########.",
            "####.####.",
            "###...###.",
            "##.....##.",
            "#.......#.");
    }

    private static void leastAreas() {
        says(TERMS, WITHIN);
        picture("the least triangle with a point within", new int[] {1, 1, 3, 2, 2, 3},
            ".....",
            "..#..",
            "..##.",
            ".#...",
            ".....");
        picture("the least triangle", new int[] {1, 1, 2, 1, 1, 2},
            "....",
            ".#..",
            ".##.",
            "....");
    }

    private static void linesCrossInOneSquare() {
        says(TERMS, MEET);
        Shape[] rising = {line(5, 5, 6, 6), line(6, 6, 5, 5)};
        Shape[] falling = {line(5, 6, 6, 5), line(6, 5, 5, 6)};
        for (Shape one : rising) {
            for (Shape other : falling) {
                meet("across one square", one, other);
            }
        }
    }

    private static void linesMeet() {
        says(TERMS, MEET);
        Shape line = line(10, 10, 20, 20);
        meet("crossing", line, line(10, 20, 20, 10));
        meet("crossing off the whole numbers", line, line(10, 11, 12, 10));
        meet("an end on the other one", line, line(15, 15, 30, 0));
        meet("an end at an end", line, line(20, 20, 21, 30));
        meet("both first ends", line, line(10, 10, 0, 30));
        meet("straight on", line, line(20, 20, 30, 30));
        meet("over one another", line, line(15, 15, 30, 30));
        meet("one in the other one", line, line(12, 12, 18, 18));
        meet("the same backwards", line, line(20, 20, 10, 10));
        meet("a bend touches", line, line(15, 30, 15, 15, 30, 15));
        meet("a later side crosses", line, line(100, 100, 100, 15, 0, 15));
    }

    private static void linesDoNotMeet() {
        says(TERMS, MEET);
        Shape line = line(10, 10, 20, 20);
        square("on one straight line, apart", 2, 1, line, line(21, 21, 30, 30));
        square("beside one another", 1, 2, line, line(11, 10, 20, 19));
        square("beside, and apart", 5, 1, line, line(22, 21, 30, 29));
        square("it would cross if it were longer", 1, 2, line, line(15, 14, 20, 9));
        square("its straight line would cross", 1, 1, line, line(21, 20, 30, 0));
        square("just not crossing", 1, 255L * 255 + 254 * 254, line(0, 0, 255, 254), line(1, 1, 0, 2));
    }

    private static void areasMeet() {
        says(TERMS, MEET);
        Shape area = area(10, 10, 30, 10, 30, 30, 10, 30);
        meet("the same", area, area(10, 10, 30, 10, 30, 30, 10, 30));
        meet("a vertex at a vertex", area, area(30, 30, 40, 30, 40, 40));
        meet("a vertex at a side", area, area(30, 20, 40, 15, 40, 25));
        meet("a side at a side", area, area(30, 15, 40, 15, 40, 25, 30, 25));
        meet("within, touching nothing", area, area(15, 15, 20, 15, 20, 20));
        meet("around, touching nothing", area, area(0, 0, 90, 0, 0, 90));
        meet("crossing without a vertex of one in the other", area, area(0, 15, 99, 15, 99, 20, 0, 20));
        meet("a tip in it", area, area(20, 20, 90, 20, 90, 22));
    }

    private static void areasDoNotMeet() {
        says(TERMS, MEET);
        Shape area = area(10, 10, 30, 10, 30, 30, 10, 30);
        square("one off a side", 1, 1, area, area(31, 0, 40, 0, 40, 90, 31, 90));
        square("one off a vertex, both ways", 2, 1, area, area(31, 31, 40, 31, 40, 40));
        square("beside a slanting side", 1, 2, area, area(31, 30, 99, 99, 30, 31));
        Shape bay = area(0, 0, 60, 0, 60, 60, 50, 60, 50, 10, 0, 10);
        square("in a bay, in its bound", 25, 1, bay, area(10, 15, 40, 15, 40, 50, 10, 50));
        square("across a bay's mouth", 100, 1, bay, area(0, 20, 40, 20, 0, 60));
    }

    private static void linesMeetAreas() {
        says(TERMS, MEET);
        Shape area = area(10, 10, 30, 10, 30, 30, 10, 30);
        meet("a line within", area, line(12, 12, 20, 25));
        meet("a line through", area, line(0, 20, 90, 20));
        meet("a line from within", area, line(20, 20, 90, 90));
        meet("a line on a side", area, line(12, 10, 20, 10));
        meet("a line along a side and on", area, line(0, 10, 90, 10));
        meet("a line through a vertex alone", area, line(0, 20, 20, 0));
        meet("a line up to a side", area, line(40, 20, 30, 20));
        meet("its last side goes through", area, line(0, 0, 0, 90, 90, 90, 20, 20));
        square("a line around it", 25, 1, area, line(5, 5, 35, 5, 35, 35, 5, 35, 5, 5));
        square("past a vertex", 1, 2, area, line(31, 30, 30, 31));
        square("up to one off a side", 1, 1, area, line(40, 20, 31, 20));
    }

    private static void squaresOfPoints() {
        says(TERMS, LEAST_SQUARE);
        square("beside a side", 9, 1, point(15, 13), line(10, 10, 20, 10));
        square("just beside its end", 9, 1, point(20, 13), line(10, 10, 20, 10));
        square("one beyond its end", 10, 1, point(21, 13), line(10, 10, 20, 10));
        square("one before its beginning", 10, 1, point(9, 7), line(10, 10, 20, 10));
        square("beside a side of an area", 16, 1, point(14, 6), area(10, 10, 20, 10, 15, 20));
        square("before a vertex of an area", 34, 1, point(5, 7), area(10, 10, 20, 10, 15, 20));
        square("the farthest line", 255L * 255, 1, point(0, 0), line(255, 0, 255, 255));
    }

    private static void squaresOfSides() {
        says(TERMS, LEAST_SQUARE);
        square("end to end", 25, 1, line(0, 0, 10, 10), line(13, 14, 30, 30));
        square("end to side", 36, 1, line(0, 0, 10, 10), line(16, 0, 16, 50));
        square("side to side, equal all along", 9, 1, line(0, 0, 10, 0), line(5, 3, 30, 3));
        square("the last sides", 4, 1, line(0, 0, 0, 50, 50, 50), line(90, 0, 90, 52, 20, 52));
        square("the side that closes an area", 4, 1, area(10, 10, 40, 10, 10, 40), point(8, 20));
        square("the slanting side that closes an area", 50, 1, area(10, 40, 10, 10, 40, 10), point(30, 30));
    }

    private static void squaresAreExact() {
        says(TERMS, EXACT);
        square("1/2", 1, 2, point(0, 1), line(0, 0, 1, 1));
        square("1/5", 1, 5, point(1, 1), line(0, 0, 1, 2));
        square("9/5", 9, 5, point(1, 2), line(0, 0, 2, 1));
        square("2, as 16/8", 2, 1, point(2, 0), line(0, 0, 2, 2));
        square("25/2", 25, 2, point(0, 0), line(0, 5, 5, 0));
        square("the least that is not 0", 1, 255L * 255 + 254 * 254, point(1, 1), line(0, 0, 255, 254));
        square("a side of an area", 1, 2, point(1, 0), area(0, 0, 9, 9, 0, 9));
    }

    private static void squaresNearWholeNumbers() {
        says(TERMS, EXACT);
        square("33202 - 1/87005", 33202L * 87005 - 1, 87005, point(254, 3), line(0, 0, 203, 214));
        square("31376 + 1/82849", 31376L * 82849 + 1, 82849, point(255, 9), line(0, 0, 200, 207));
        square("26357 - 1/80401", 26357L * 80401 - 1, 80401, point(234, 5), line(0, 0, 200, 201));
        SpatialTables t = new SpatialTables();
        // 1099850896/23432 and 2048467600/43642: the second one is less by 32 / (23432 * 43642).
        draw(t, LINE, 153, 163, 19, 237);
        t.insert(0, 0);
        draw(t, LINE, 239, 1, 150, 190);
        t.insert(0, 1);
        draw(t, POINT, 0, 0);
        due("the same whole part", t.measure(0, 0), t.measure(0, 1));
        t.nearest(0, 2);
        dueResults("the second one is nearer", t, 1, 0);
        equalFractions();
    }

    /** 9/5 as 9/5 and as 36/20: equal, so that the numbers decide. */
    private static void equalFractions() {
        SpatialTables t = withRow(LINE, 100, 100, 104, 102);
        draw(t, LINE, 100, 100, 102, 101);
        t.insert(0, 1);
        draw(t, LINE, 104, 102, 100, 100);
        t.insert(0, 2);
        draw(t, POINT, 101, 102);
        due("9/5", 1, t.measure(0, 0));
        t.nearest(0, 3);
        dueResults("36/20 and 9/5 and 36/20", t, 0, 1, 2);
    }

    private static void greatestWholeNumber() {
        says("Promise 12", "The greatest whole number that is not above the squared distance of the focus from the"
            + " geometry of a row of a present table");
        SpatialTables t = withRow(POINT, 0, 0);
        t.insert(1, 1);
        due("of itself", 0, t.measure(0, 0));
        draw(t, LINE, 0, 1, 1, 0);
        due("of 1/2", 0, t.measure(0, 0));
        draw(t, LINE, 0, 3, 3, 0);
        due("of 9/2", 4, t.measure(1, 0));
        draw(t, LINE, 0, 4, 4, 0);
        due("of 8", 8, t.measure(1, 0));
        draw(t, POINT, 255, 255);
        due("the greatest", 130050, t.measure(0, 0));
        t.update(0, 0, 1, true);
        due("after a move", 0, t.measure(0, 0));
        due("of the other table", 130050, t.measure(1, 0));
        t.rollback();
        due("present tables alone", -1, t.measure(0, 0));
    }

    private static void nothingToMeasure() {
        says("Promise 12", "-1 if there is no such table or row, or no focus.");
        SpatialTables t = withRow(POINT, 9, 9);
        for (int table : NO_TABLES) {
            due("table " + table, -1, t.measure(table, 0));
        }
        for (int row : NO_ROWS) {
            due("row " + row, -1, t.measure(0, row));
        }
        for (int row = 1; row < 16; row++) {
            due("row " + row + " is not there", -1, t.measure(0, row));
        }
        due("the other table is empty", -1, t.measure(1, 0));
        t.delete(0, 0);
        due("the row is not there any more", -1, t.measure(0, 0));
        t.insert(0, 1);
        t.commit(-1);
        t.crash();
        due("no focus", -1, t.measure(0, 0));
        due("no focus and no row", -1, t.measure(0, 1));
        due("the row is there", 1, t.rows(0));
    }
}
