/** The promises one by one: ordinary inputs, the edges that the document names, and wrong inputs. */
public final class PromisesTest extends Scenes {
    public static void main(String[] args) {
        newObject();
        vertices();
        shapes();
        areasThatAreNone();
        areasThatAreSome();
        inserts();
        deletes();
        updates();
        selects();
        selectReads();
        selectExactly();
        nearestInOrder();
        nearestReads();
        joins();
        joinReads();
        results();
        measures();
        measuresOfAreas();
        valuesAndRows();
        nodeCounts();
        commits();
        commitsThatChangeNothing();
        changedPages();
        commitsThatAreCut();
        commitsWithoutRoom();
        rollbacks();
        crashes();
        frames();
        checks.end();
    }

    private static void newObject() {
        SpatialTables t = new SpatialTables();
        for (int table = 0; table < 2; table++) {
            due("1: rows", 0, t.rows(table));
            due("1: nodes", 0, t.nodes(table));
            due("1: value", 0, t.value(table, 0));
            due("1: insert without focus", -1, t.insert(table, 1));
            due("1: select without focus", -1, t.select(table, 0, 0, 0));
            due("1: nearest without focus", -1, t.nearest(table, 1));
        }
        due("1: result", -1, t.result(0));
        due("1: reads", 0, t.reads());
        due("1: nothing to commit", 0, t.commit(-1));
        due("1: join of empty tables", 0, t.join(0));
        due("1: draft is empty", 1, t.vertex(1, 1));
        SpatialTables other = new SpatialTables();
        due("1: objects share nothing", 1, other.vertex(2, 2));
    }

    private static void vertices() {
        SpatialTables t = new SpatialTables();
        due("2: left of the plane", -1, t.vertex(-1, 0));
        due("2: below the plane", -1, t.vertex(0, -1));
        due("2: right of the plane", -1, t.vertex(256, 0));
        due("2: above the plane", -1, t.vertex(0, 256));
        due("2: far off", -1, t.vertex(LEAST, GREATEST));
        due("2: least", 1, t.vertex(0, 0));
        due("2: greatest", 2, t.vertex(255, 255));
        due("2: refused in between", -1, t.vertex(256, 256));
        due("2: third", 3, t.vertex(0, 255));
        due("2: fourth", 4, t.vertex(255, 0));
        due("2: fifth", 5, t.vertex(7, 7));
        due("2: sixth", 6, t.vertex(8, 8));
        due("2: seventh", -1, t.vertex(9, 9));
        due("2: six vertices are a line", 0, t.shape(LINE));
        due("2: the draft is empty then", 1, t.vertex(1, 1));
    }

    private static void shapes() {
        SpatialTables t = new SpatialTables();
        t.vertex(1, 1);
        due("3: no such kind below", -1, t.shape(-1));
        due("3: no such kind above", -1, t.shape(3));
        due("3: no such kind at all", -1, t.shape(LEAST));
        due("3: refused, the draft stays", 2, t.vertex(1, 1));
        due("3: two vertices are no point", 1, t.shape(POINT));
        due("3: the draft is empty then", 1, t.shape(POINT));
        due("3: no focus then", -1, t.insert(0, 1));
        due("3: one vertex is no line", 1, draw(t, LINE, 1, 1));
        due("3: none is no line", 1, draw(t, LINE));
        due("3: none is no area", 1, draw(t, AREA));
        due("3: two equal ones are no area", 1, draw(t, AREA, 1, 1, 1, 1));
        due("3: equal at once", 2, draw(t, LINE, 1, 1, 1, 1));
        due("3: equal at the end", 2, draw(t, LINE, 1, 1, 2, 2, 3, 3, 3, 3));
        due("3: same x alone", 0, draw(t, LINE, 1, 1, 1, 2));
        due("3: same y alone", 0, draw(t, LINE, 1, 1, 2, 1));
        due("3: a closed line", 0, draw(t, LINE, 1, 1, 2, 2, 3, 1, 1, 1));
        due("3: a line over itself", 0, draw(t, LINE, 1, 1, 5, 1, 3, 1));
        due("3: a point", 0, draw(t, POINT, 20, 20));
        due("3: the focus is the point", 0, t.insert(0, 1));
        due("3: a bad shape", 2, draw(t, LINE, 9, 9, 9, 9));
        due("3: the focus stays", 0, t.measure(0, 0));
        due("3: another focus", 0, draw(t, POINT, 23, 24));
        due("3: is the focus", 25, t.measure(0, 0));
    }

    private static void areasThatAreNone() {
        SpatialTables t = new SpatialTables();
        due("3: last equals first", 2, draw(t, AREA, 0, 0, 4, 0, 4, 4, 0, 0));
        due("3: equal and crossing", 2, draw(t, AREA, 0, 0, 9, 9, 9, 0, 0, 9, 0, 9));
        due("3: flat triangle", 3, draw(t, AREA, 0, 0, 4, 0, 2, 0));
        due("3: flat, long side first", 3, draw(t, AREA, 0, 0, 1, 1, 9, 9));
        due("3: bow tie", 3, draw(t, AREA, 0, 0, 9, 9, 9, 0, 0, 9));
        due("3: a spike out", 3, draw(t, AREA, 0, 0, 4, 0, 9, 0, 4, 0, 4, 4));
        due("3: a spike at the first vertex", 3, draw(t, AREA, 0, 0, 4, 0, 4, 4, 2, 4, 2, 0));
        due("3: folds back at the last side", 3, draw(t, AREA, 4, 0, 8, 0, 8, 8, 0, 8, 0, 4, 0, 6));
        due("3: a vertex on another side", 3, draw(t, AREA, 0, 0, 8, 0, 8, 8, 4, 0, 0, 8));
        due("3: a vertex twice", 3, draw(t, AREA, 0, 0, 4, 4, 8, 0, 8, 8, 4, 4, 0, 8));
        due("3: sides over one another", 3, draw(t, AREA, 0, 0, 8, 0, 8, 4, 6, 0, 2, 0, 0, 4));
        due("3: back to the middle of the first side", 3, draw(t, AREA, 0, 0, 8, 0, 8, 8, 4, 8, 4, 0, 2, 6));
        due("3: no focus of all these", -1, t.insert(0, 0));
    }

    private static void areasThatAreSome() {
        SpatialTables t = new SpatialTables();
        due("3: a triangle", 0, draw(t, AREA, 0, 0, 4, 0, 0, 4));
        due("3: the other way round", 0, draw(t, AREA, 0, 4, 4, 0, 0, 0));
        due("3: straight on at a vertex", 0, draw(t, AREA, 0, 0, 4, 0, 8, 0, 8, 8));
        due("3: straight on at the first vertex", 0, draw(t, AREA, 4, 0, 8, 0, 8, 8, 0, 0));
        due("3: six vertices with a bay", 0, draw(t, AREA, 0, 0, 8, 0, 8, 8, 6, 8, 6, 2, 0, 2));
        due("3: thin", 0, draw(t, AREA, 0, 0, 255, 254, 254, 253));
        due("3: all of the plane", 0, draw(t, AREA, 0, 0, 255, 0, 255, 255, 0, 255));
    }

    private static void inserts() {
        SpatialTables t = withFocus(POINT, 9, 9);
        due("4: no table below", -1, t.insert(-1, 1));
        due("4: no table above", -1, t.insert(2, 1));
        due("4: no table at all", -1, t.insert(GREATEST, 1));
        for (int i = 0; i < 16; i++) {
            due("4: the next number", i, t.insert(1, -i));
        }
        due("4: 16 rows are there", -1, t.insert(1, 7));
        due("4: refused changes nothing", 0xffff, t.rows(1));
        due("4: the other table is empty", 0, t.rows(0));
        t.delete(1, 11);
        t.delete(1, 3);
        due("4: the least number", 3, t.insert(1, LEAST));
        due("4: the next least one", 11, t.insert(1, GREATEST));
        due("4: any int, the least", LEAST, t.value(1, 3));
        due("4: any int, the greatest", GREATEST, t.value(1, 11));
        draw(t, POINT, 9, 10);
        due("4: the row keeps the focus of then", 1, t.measure(1, 3));
    }

    private static void deletes() {
        SpatialTables t = withFocus(POINT, 9, 9);
        t.insert(0, 5);
        t.insert(0, 6);
        due("5: no table", false, t.delete(2, 0));
        due("5: no table below", false, t.delete(-1, 0));
        due("5: no row in table 1", false, t.delete(1, 0));
        due("5: no such row", false, t.delete(0, 2));
        due("5: no such number", false, t.delete(0, 16));
        due("5: no such number below", false, t.delete(0, -1));
        due("5: no such number at all", false, t.delete(0, LEAST));
        due("5: nothing changed", 3, t.rows(0));
        due("5: a row", true, t.delete(0, 0));
        due("5: it is out", 2, t.rows(0));
        due("5: its value is out", 0, t.value(0, 0));
        due("5: its geometry is out", -1, t.measure(0, 0));
        due("5: twice", false, t.delete(0, 0));
        due("5: the last one", true, t.delete(0, 1));
        due("5: no nodes are left", 0, t.nodes(0));
    }

    private static void updates() {
        SpatialTables t = withFocus(POINT, 9, 9);
        t.insert(0, 5);
        due("6: no table", false, t.update(2, 0, 1, false));
        due("6: no table below", false, t.update(-1, 0, 1, true));
        due("6: no row", false, t.update(0, 1, 1, false));
        due("6: no such number", false, t.update(0, 16, 1, false));
        due("6: no such number below", false, t.update(0, -1, 1, true));
        due("6: nothing changed", 5, t.value(0, 0));
        draw(t, LINE, 9, 19, 10, 29);
        due("6: the value alone", true, t.update(0, 0, -8, false));
        due("6: has the value", -8, t.value(0, 0));
        due("6: has its place still", 100, t.measure(0, 0));
        due("6: has its nodes still", 9, t.nodes(0));
        due("6: both", true, t.update(0, 0, 12, true));
        due("6: has the other value", 12, t.value(0, 0));
        due("6: has the other place", 0, t.measure(0, 0));
        due("6: has other nodes", 5, t.nodes(0));
        t.commit(-1);
        t.crash();
        due("6: move without focus", false, t.update(0, 0, 77, true));
        due("6: refused changes nothing", 12, t.value(0, 0));
        due("6: the value needs no focus", true, t.update(0, 0, 77, false));
        due("6: the value without focus", 77, t.value(0, 0));
    }

    private static void selects() {
        SpatialTables t = new SpatialTables();
        addPoints(t, 0, 10, 10, 13, 10, 10, 14, 20, 10);
        draw(t, POINT, 10, 10);
        due("7: at the place", 1, t.select(0, 0, LEAST, GREATEST));
        dueResults("7: at the place", t, 0);
        due("7: just not 9", 1, t.select(0, 8, LEAST, GREATEST));
        due("7: just 9", 2, t.select(0, 9, LEAST, GREATEST));
        dueResults("7: just 9", t, 0, 1);
        due("7: the greatest limit", 4, t.select(0, GREATEST, LEAST, GREATEST));
        dueResults("7: by rising numbers", t, 0, 1, 2, 3);
        due("7: low and high belong to it", 2, t.select(0, 100, 1, 2));
        dueResults("7: low and high", t, 1, 2);
        due("7: one value", 1, t.select(0, 100, 3, 3));
        dueResults("7: one value", t, 3);
        due("7: low above high", 0, t.select(0, 100, 2, 1));
        dueResults("7: low above high", t);
        due("7: an empty table", 0, t.select(1, 100, 0, 9));
        due("7: an empty table is not read", 0, t.reads());
        t.select(0, 100, 1, 2);
        due("7: no table below", -1, t.select(-1, 0, 0, 9));
        due("7: no table above", -1, t.select(2, 0, 0, 9));
        due("7: limit below 0", -1, t.select(0, -1, 0, 9));
        due("7: limit far below 0", -1, t.select(0, LEAST, 0, 9));
        dueResults("7: refused changes nothing", t, 1, 2);
        due("7: refused leaves the reads", 4, t.reads());
    }

    private static void selectReads() {
        SpatialTables t = new SpatialTables();
        addPoints(t, 0, 0, 0, 255, 255, 0, 255, 255, 0);
        draw(t, POINT, 0, 0);
        t.select(0, 0, 9, 9);
        due("11: four rows are all read", 4, t.reads());
        addPoints(t, 0, 128, 128);
        draw(t, POINT, 0, 0);
        due("7: five rows", 1, t.select(0, 0, LEAST, GREATEST));
        // The square of level 0, the squares of levels 1 to 8 around (0, 0), and the row.
        due("11: five rows are read by their nodes", 10, t.reads());
        t.select(0, 0, 77, 78);
        due("11: values do not count for the reads", 10, t.reads());
        draw(t, POINT, 100, 100);
        t.select(0, 1567, LEAST, GREATEST);
        due("11: 28 and 28 off, just not", 1, t.reads());
        t.select(0, 1568, LEAST, GREATEST);
        // Row 4 and its squares; that of level 1 has row 1 too.
        due("11: 28 and 28 off, just so", 10, t.reads());
        t.select(0, GREATEST, LEAST, GREATEST);
        due("11: all nodes and rows", 40 + 5, t.reads());
        due("15: of which nodes", 40, t.nodes(0));
    }

    /** A row can be read by its bound and not be found by its geometry. */
    private static void selectExactly() {
        SpatialTables t = withFocus(LINE, 0, 0, 100, 100);
        for (int i = 0; i < 5; i++) {
            t.insert(0, i);
        }
        draw(t, POINT, 100, 0);
        due("7: in the bound, off the line", 0, t.select(0, 4999, LEAST, GREATEST));
        due("11: but read", 7, t.reads());
        due("7: at its distance", 5, t.select(0, 5000, LEAST, GREATEST));
        draw(t, LINE, 1, 0, 2, 0);
        due("7: half a square off", 0, t.select(0, 0, LEAST, GREATEST));
        due("7: half is at most 1", 5, t.select(0, 1, LEAST, GREATEST));
        t = withFocus(LINE, 0, 0, 2, 1);
        t.insert(0, 0);
        draw(t, POINT, 1, 2);
        due("7: 9/5 is above 1", 0, t.select(0, 1, 0, 0));
        due("7: 9/5 is below 2", 1, t.select(0, 2, 0, 0));
        due("12: 9/5", 1, t.measure(0, 0));
    }

    private static void nearestInOrder() {
        SpatialTables t = new SpatialTables();
        addPoints(t, 1, 50, 50, 10, 10, 12, 10, 8, 10, 10, 12);
        draw(t, POINT, 10, 10);
        due("8: one", 1, t.nearest(1, 1));
        dueResults("8: one", t, 1);
        due("8: equal ones by numbers", 4, t.nearest(1, 4));
        dueResults("8: equal ones by numbers", t, 1, 2, 3, 4);
        due("8: not so many", 5, t.nearest(1, 16));
        dueResults("8: not so many", t, 1, 2, 3, 4, 0);
        due("8: k of 0", -1, t.nearest(1, 0));
        due("8: k of 17", -1, t.nearest(1, 17));
        due("8: k below 0", -1, t.nearest(1, LEAST));
        due("8: no table above", -1, t.nearest(2, 1));
        due("8: no table below", -1, t.nearest(-1, 1));
        dueResults("8: refused changes nothing", t, 1, 2, 3, 4, 0);
        due("8: an empty table", 0, t.nearest(0, 3));
        dueResults("8: an empty table", t);
        due("8: an empty table is not read", 0, t.reads());
        nearestFractions();
    }

    /** Distances that differ by fractions alone: 0, 9/5, 2, 25/13 and 9/5 again. */
    private static void nearestFractions() {
        SpatialTables t = withFocus(POINT, 101, 102);
        t.insert(0, 0);
        draw(t, LINE, 100, 100, 102, 101);
        t.insert(0, 1);
        draw(t, POINT, 102, 103);
        t.insert(0, 2);
        draw(t, LINE, 99, 99, 102, 101);
        t.insert(0, 3);
        draw(t, LINE, 102, 104, 100, 103);
        t.insert(0, 4);
        draw(t, POINT, 101, 102);
        due("12: 9/5", 1, t.measure(0, 1));
        due("12: 2", 2, t.measure(0, 2));
        due("12: 25/13", 1, t.measure(0, 3));
        due("12: 9/5 again", 1, t.measure(0, 4));
        due("8: fractions", 5, t.nearest(0, 5));
        dueResults("8: fractions", t, 0, 1, 4, 3, 2);
        due("8: fractions, k of 2", 2, t.nearest(0, 2));
        // D is 9/5: the bounds of all rows but row 2, which is 2 off. The homes of rows 1, 3 and 4 are squares
        // of sides 4, 8 and 16 that have row 0 too; its 9 nodes are near, the two that row 2 has alone are not.
        due("11: D is no whole number", 4 + 9, t.reads());
        due("15: two more nodes", 11, t.nodes(0));
    }

    private static void nearestReads() {
        SpatialTables t = new SpatialTables();
        addPoints(t, 0, 1, 1, 200, 1);
        draw(t, POINT, 1, 1);
        due("8: as many as k", 2, t.nearest(0, 2));
        due("11: D reaches all", 17 + 2, t.reads());
        due("8: the nearest alone", 1, t.nearest(0, 1));
        due("11: few rows are read by nodes too", 9 + 1, t.reads());
        draw(t, LINE, 200, 0, 255, 50);
        t.insert(0, 2);
        draw(t, POINT, 1, 1);
        due("8: less than k", 3, t.nearest(0, 4));
        due("11: all nodes and rows", t.nodes(0) + 3, t.reads());
        // The bound of row 2 is 199 off in x and none in y, as near as row 1; row 2 itself is farther off.
        due("8: two of three", 2, t.nearest(0, 2));
        dueResults("8: two of three", t, 0, 1);
        due("11: a row that is read and no result", t.nodes(0) + 3, t.reads());
    }

    private static void joins() {
        SpatialTables t = new SpatialTables();
        addPoints(t, 0, 10, 10, 50, 50, 90, 90);
        addPoints(t, 1, 90, 91, 10, 11, 10, 10);
        t.delete(0, 1);
        due("9: limit below 0", -1, t.join(-1));
        due("9: limit far below 0", -1, t.join(LEAST));
        due("9: meeting", 1, t.join(0));
        dueResults("9: meeting", t, 2);
        due("9: one off", 3, t.join(1));
        dueResults("9: one off", t, 1, 2, 32);
        due("9: reads", 6, t.reads());
        due("9: all", 6, t.join(GREATEST));
        dueResults("9: all", t, 0, 1, 2, 32, 33, 34);
        due("9: refused", -1, t.join(-1));
        dueResults("9: refused changes nothing", t, 0, 1, 2, 32, 33, 34);
        due("9: refused leaves the reads", 6, t.reads());
        t.commit(-1);
        t.crash();
        due("9: needs no focus", 3, t.join(1));
        t.delete(0, 0);
        t.delete(0, 2);
        due("9: no rows in table 0", 0, t.join(GREATEST));
        due("9: nothing is read", 0, t.reads());
        dueResults("9: no rows in table 0", t);
    }

    private static void joinReads() {
        SpatialTables t = new SpatialTables();
        addPoints(t, 0, 10, 10, 200, 200);
        addPoints(t, 1, 10, 10, 10, 10, 10, 10, 10, 10);
        due("9: four rows", 4, t.join(0));
        due("9: four rows are all read twice", 8, t.reads());
        addPoints(t, 1, 20, 10);
        due("9: five rows", 4, t.join(0));
        // (10, 10) reads 9 nodes and 4 rows; (200, 200) is off the bound of all.
        due("9: five rows by nodes", 13, t.reads());
        due("9: the other one too", 5, t.join(100));
        due("10: pairs", 0, t.result(0));
        due("10: pairs", 4, t.result(4));
    }

    private static void results() {
        SpatialTables t = new SpatialTables();
        addPoints(t, 0, 1, 1, 2, 2, 3, 3);
        t.select(0, 100, 0, 9);
        due("10: none before the first", -1, t.result(-1));
        due("10: none far before", -1, t.result(LEAST));
        due("10: the first", 0, t.result(0));
        due("10: the last", 2, t.result(2));
        due("10: none after the last", -1, t.result(3));
        due("10: none far after", -1, t.result(GREATEST));
        t.delete(0, 2);
        t.rollback();
        due("10: results stay as they were", 2, t.result(2));
        due("11: reads stay too", 3, t.reads());
        addPoints(t, 1, 7, 7);
        t.nearest(1, 1);
        dueResults("10: the latest", t, 0);
        due("11: the latest", 10, t.reads());
    }

    private static void measures() {
        SpatialTables t = withFocus(POINT, 0, 0);
        t.insert(0, 1);
        draw(t, LINE, 0, 5, 5, 0);
        t.insert(1, 1);
        due("12: 25/2", 12, t.measure(0, 0));
        due("12: no table", -1, t.measure(2, 0));
        due("12: no table below", -1, t.measure(-1, 0));
        due("12: no row", -1, t.measure(0, 1));
        due("12: no such number", -1, t.measure(0, 16));
        due("12: no such number below", -1, t.measure(0, -1));
        draw(t, POINT, 255, 255);
        due("12: the farthest", 130050, t.measure(0, 0));
        draw(t, LINE, 0, 0, 5, 5);
        due("12: crossing", 0, t.measure(1, 0));
        draw(t, LINE, 0, 0, 2, 2);
        due("12: not quite crossing", 0, t.measure(1, 0));
        due("7: which is not meeting", 0, t.select(1, 0, 1, 1));
        draw(t, LINE, 6, 0, 9, 0);
        due("12: beside its end", 1, t.measure(1, 0));
        draw(t, LINE, 9, 9, 2, 3, 9, 8);
        due("12: touching at a vertex", 0, t.measure(1, 0));
        due("7: which is meeting", 1, t.select(1, 0, 1, 1));
        draw(t, LINE, 1, 4, 3, 2);
        due("7: on the line", 1, t.select(1, 0, 1, 1));
        draw(t, LINE, 7, 0, 8, 0, 0, 7);
        // 256/113, from (0, 5) to the second side; the nearest vertex is 4 off.
        due("12: the nearest side counts", 2, t.measure(1, 0));
        draw(t, LINE, 100, 0, 101, 0, 0, 102);
        // From (5, 0) to 102 x + 101 y = 10302: 9792 * 9792 / 20605.
        due("12: a fraction far off", 4653, t.measure(1, 0));
        t.commit(-1);
        t.crash();
        due("12: no focus", -1, t.measure(1, 0));
    }

    private static void measuresOfAreas() {
        SpatialTables t = withFocus(AREA, 10, 10, 60, 10, 60, 60, 50, 60, 50, 20, 10, 20);
        t.insert(0, 1);
        draw(t, POINT, 20, 15);
        due("12: within", 0, t.measure(0, 0));
        draw(t, POINT, 55, 55);
        due("12: within the other arm", 0, t.measure(0, 0));
        draw(t, POINT, 60, 60);
        due("12: on a vertex", 0, t.measure(0, 0));
        draw(t, POINT, 30, 20);
        due("12: on a side", 0, t.measure(0, 0));
        draw(t, POINT, 45, 30);
        due("12: in the bay", 25, t.measure(0, 0));
        draw(t, LINE, 52, 50, 58, 55);
        due("12: a line within", 0, t.measure(0, 0));
        draw(t, LINE, 0, 15, 200, 15);
        due("12: a line through", 0, t.measure(0, 0));
        draw(t, AREA, 20, 12, 22, 12, 21, 14);
        due("12: an area within", 0, t.measure(0, 0));
        draw(t, AREA, 0, 0, 200, 0, 200, 200, 0, 200);
        due("12: an area around", 0, t.measure(0, 0));
        draw(t, AREA, 20, 30, 40, 30, 40, 50, 20, 50);
        due("12: an area in the bay", 100, t.measure(0, 0));
        draw(t, AREA, 60, 61, 70, 61, 70, 70);
        due("12: an area beside it", 1, t.measure(0, 0));
        draw(t, LINE, 10, 30, 40, 30, 40, 60, 10, 60, 10, 30);
        t.insert(0, 2);
        draw(t, POINT, 25, 45);
        due("12: a closed line is no area", 225, t.measure(0, 1));
    }

    private static void valuesAndRows() {
        SpatialTables t = withFocus(POINT, 3, 3);
        t.insert(0, 40);
        t.insert(0, 41);
        t.insert(1, -42);
        due("13: table 0", 41, t.value(0, 1));
        due("13: table 1", -42, t.value(1, 0));
        due("13: no row", 0, t.value(1, 1));
        due("13: no such number", 0, t.value(0, 16));
        due("13: no such number below", 0, t.value(0, -1));
        due("13: no table", 0, t.value(2, 0));
        due("13: no table below", 0, t.value(-1, 0));
        due("13: neither", 0, t.value(LEAST, GREATEST));
        due("14: table 0", 3, t.rows(0));
        due("14: table 1", 1, t.rows(1));
        due("14: no table", -1, t.rows(2));
        due("14: no table below", -1, t.rows(-1));
        t.delete(0, 0);
        due("14: bits", 2, t.rows(0));
        for (int i = 0; i < 15; i++) {
            t.insert(0, i);
        }
        due("14: all bits", 65535, t.rows(0));
    }

    private static int nodesOf(int kind, int... xy) {
        SpatialTables t = withFocus(kind, xy);
        t.insert(0, 0);
        return t.nodes(0);
    }

    private static void nodeCounts() {
        due("15: a point is at home in level 8", 9, nodesOf(POINT, 255, 255));
        due("15: 0 and 1", 8, nodesOf(LINE, 0, 0, 1, 1));
        due("15: 1 and 2", 7, nodesOf(LINE, 1, 0, 2, 0));
        due("15: 3 and 4 in y", 6, nodesOf(LINE, 0, 3, 0, 4));
        due("15: 127 and 128", 1, nodesOf(LINE, 127, 5, 128, 5));
        due("15: 63 and 64", 2, nodesOf(LINE, 5, 63, 5, 64));
        due("15: 128 to 255", 2, nodesOf(LINE, 128, 128, 255, 255));
        SpatialTables t = new SpatialTables();
        due("15: no table", -1, t.nodes(2));
        due("15: no table below", -1, t.nodes(-1));
        addPoints(t, 1, 0, 0, 1, 1);
        due("15: two in one square of side 2", 10, t.nodes(1));
        addPoints(t, 1, 0, 0);
        due("15: the same square", 10, t.nodes(1));
        due("15: the other table", 0, t.nodes(0));
        t.delete(1, 1);
        due("15: one square less", 9, t.nodes(1));
        addPoints(t, 1, 255, 0);
        due("15: far apart", 17, t.nodes(1));
        t.rollback();
        due("15: rolled back", 0, t.nodes(1));
        int[] apart = new int[32];
        for (int i = 0; i < 16; i++) {
            apart[2 * i] = i % 4 * 64;
            apart[2 * i + 1] = i / 4 * 64;
        }
        addPoints(t, 1, apart);
        due("15: the most nodes that there can be", 1 + 4 + 16 * 7, t.nodes(1));
    }

    private static void commits() {
        SpatialTables t = withFocus(POINT, 9, 9);
        for (int i = 0; i < 5; i++) {
            t.insert(0, i);
        }
        t.insert(1, 0);
        due("16: three pages, directory, switch", 5, t.commit(-1));
        due("16: page 0", 1, t.frame(0));
        due("16: page 1", 2, t.frame(1));
        due("16: page 4", 3, t.frame(4));
        due("16: directory", 4, t.frame(8));
        due("16: no crash", 5, t.insert(0, 5));
        t.update(1, 0, 9, false);
        due("16: two pages", 4, t.commit(LEAST));
        due("16: page 0 stays", 1, t.frame(0));
        due("16: page 1 goes to frame 0", 0, t.frame(1));
        due("16: page 4 goes to 5", 5, t.frame(4));
        due("16: directory goes to 6", 6, t.frame(8));
        t.delete(1, 0);
        due("16: a page without rows is not written", 2, t.commit(3));
        due("16: page 4 is in no frame", -1, t.frame(4));
        due("16: directory goes to 2", 2, t.frame(8));
        due("16: most above the writes is no crash", 0, t.insert(1, 1));
        due("16: 5 and 6 are free again", 3, t.commit(GREATEST));
        due("16: page 4 goes to 3", 3, t.frame(4));
        due("16: directory goes to 4", 4, t.frame(8));
        t.rollback();
        due("16: what is committed stays", 1, t.value(1, 0));
        due("16: what is committed stays", 63, t.rows(0));
    }

    private static void commitsThatChangeNothing() {
        SpatialTables t = withFocus(POINT, 9, 9);
        due("16: nothing changed", 0, t.commit(0));
        due("16: and no crash", 0, t.insert(0, 1));
        due("16: changed", 3, t.commit(-1));
        t.update(0, 0, 2, false);
        t.update(0, 0, 1, true);
        due("16: changed back", 0, t.commit(0));
        due("16: and no crash then", 1, t.insert(0, 1));
        t.delete(0, 1);
        t.delete(0, 0);
        t.insert(0, 1);
        due("16: taken out and put in again", 0, t.commit(-1));
        due("16: the directory stays", 2, t.frame(8));
    }

    private static void changedPages() {
        SpatialTables t = withFocus(LINE, 1, 1, 2, 2);
        t.insert(0, 1);
        t.commit(-1);
        draw(t, LINE, 2, 2, 1, 1);
        t.update(0, 0, 1, true);
        due("16: another order of vertices", 3, t.commit(-1));
        draw(t, LINE, 2, 2, 1, 1, 2, 2);
        t.update(0, 0, 1, true);
        due("16: one vertex more", 3, t.commit(-1));
        draw(t, LINE, 2, 2, 1, 1, 2, 3);
        t.update(0, 0, 1, true);
        due("16: another y", 3, t.commit(-1));
        draw(t, AREA, 2, 2, 1, 1, 2, 3);
        t.update(0, 0, 1, true);
        due("16: another kind", 3, t.commit(-1));
        draw(t, AREA, 2, 2, 1, 1, 2, 3);
        t.update(0, 0, 1, true);
        due("16: drawn again, the same", 0, t.commit(-1));
        t.update(0, 0, 2, false);
        due("16: another value", 3, t.commit(-1));
        t.insert(0, 2);
        t.delete(0, 0);
        due("16: another number", 3, t.commit(-1));
    }

    private static void commitsThatAreCut() {
        for (int most = 0; most <= 5; most++) {
            SpatialTables t = withFocus(POINT, 9, 9);
            t.insert(0, 7);
            due("16: first commit", 3, t.commit(-1));
            t.update(0, 0, 8, false);
            t.insert(1, 9);
            t.select(0, 0, 8, 8);
            t.vertex(1, 1);
            String what = "16: cut at " + most;
            due(what, Math.min(most, 4), t.commit(most));
            boolean done = most >= 4;
            boolean crashed = most <= 4;
            due(what + ", value", done ? 8 : 7, t.value(0, 0));
            due(what + ", rows", done ? 1 : 0, t.rows(1));
            due(what + ", nodes", done ? 9 : 0, t.nodes(1));
            due(what + ", page 0", done ? 0 : 1, t.frame(0));
            due(what + ", page 4", done ? 3 : -1, t.frame(4));
            due(what + ", directory", done ? 4 : 2, t.frame(8));
            due(what + ", draft", crashed ? 1 : 2, t.vertex(2, 2));
            due(what + ", reads", crashed ? 0 : 1, t.reads());
            due(what + ", result", crashed ? -1 : 0, t.result(0));
            due(what + ", focus", crashed ? -1 : 1, t.insert(0, 1));
            draw(t, POINT, 5, 5);
            draw(t, POINT, 5, 5);
            t.rollback();
            t.insert(0, 3);
            due(what + ", the next one", 3, t.commit(-1));
            due(what + ", the next one's page", done ? 1 : 0, t.frame(0));
            due(what + ", the next one's directory", done ? 2 : 3, t.frame(8));
        }
    }

    private static void commitsWithoutRoom() {
        SpatialTables t = withFocus(POINT, 9, 9);
        for (int i = 0; i < 32; i++) {
            t.insert(i % 2, 1);
        }
        due("16: all pages", 10, t.commit(-1));
        for (int row = 0; row < 16; row += 4) {
            t.update(0, row, 2, false);
            t.update(1, row, 2, false);
        }
        t.vertex(1, 1);
        due("16: 9 frames are needed and 7 free", -1, t.commit(-1));
        due("16: refused before any cut", -1, t.commit(0));
        due("16: refused before any cut", -1, t.commit(10));
        due("16: refused changes nothing", 2, t.value(0, 0));
        due("16: refused is no crash", 2, t.vertex(2, 2));
        due("16: refused leaves the frames", 9, t.frame(8));
        t.update(0, 0, 1, false);
        due("16: 8 are needed", -1, t.commit(-1));
        t.update(1, 12, 1, false);
        due("16: 7 are needed", 8, t.commit(-1));
        due("16: page 1 goes to frame 0", 0, t.frame(1));
        due("16: page 2 goes to frame 10", 10, t.frame(2));
        due("16: directory goes to frame 15", 15, t.frame(8));
        for (int row = 0; row < 16; row++) {
            t.delete(1, row);
            t.update(0, row, 5, false);
        }
        due("16: pages without rows need no frames", 6, t.commit(-1));
        due("16: page 0 goes to frame 2", 2, t.frame(0));
        due("16: page 7 is in no frame", -1, t.frame(7));
    }

    private static void rollbacks() {
        SpatialTables t = withFocus(POINT, 9, 9);
        t.insert(0, 7);
        t.insert(1, 8);
        t.commit(-1);
        draw(t, POINT, 9, 12);
        t.update(0, 0, 70, true);
        t.insert(0, 71);
        t.delete(1, 0);
        t.select(0, 0, 70, 71);
        t.vertex(1, 1);
        t.rollback();
        due("17: value", 7, t.value(0, 0));
        due("17: geometry", 9, t.measure(0, 0));
        due("17: rows of table 0", 1, t.rows(0));
        due("17: rows of table 1", 1, t.rows(1));
        due("17: nodes", 9, t.nodes(0));
        due("17: the results stay", 1, t.result(1));
        due("17: the reads stay", 2, t.reads());
        due("17: the draft stays", 2, t.vertex(2, 2));
        due("17: the focus stays", 1, t.insert(0, 1));
        t.rollback();
        due("17: nothing to commit", 0, t.commit(-1));
        t.update(0, 0, 70, false);
        t.rollback();
        due("17: the commit has rows of its own", 7, t.value(0, 0));
    }

    private static void crashes() {
        SpatialTables t = withFocus(POINT, 9, 9);
        t.insert(0, 7);
        t.commit(-1);
        t.update(0, 0, 70, false);
        t.insert(1, 71);
        t.select(0, 0, 70, 70);
        t.vertex(1, 1);
        t.crash();
        due("18: value", 7, t.value(0, 0));
        due("18: rows", 0, t.rows(1));
        due("18: nodes", 0, t.nodes(1));
        due("18: results", -1, t.result(0));
        due("18: reads", 0, t.reads());
        due("18: focus", -1, t.measure(0, 0));
        due("18: draft", 1, t.vertex(2, 2));
        due("18: frames stay", 1, t.frame(0));
        due("18: directory stays", 2, t.frame(8));
        t.crash();
        due("18: twice", 1, t.rows(0));
        SpatialTables fresh = withFocus(POINT, 9, 9);
        fresh.insert(0, 7);
        fresh.crash();
        due("18: before any commit", 0, fresh.rows(0));
    }

    private static void frames() {
        SpatialTables t = withFocus(POINT, 9, 9);
        for (int p = 0; p < 8; p++) {
            due("19: no page at first", -1, t.frame(p));
        }
        due("19: directory at first", 0, t.frame(8));
        due("19: no such page below", -1, t.frame(-1));
        due("19: no such page above", -1, t.frame(9));
        due("19: no such page at all", -1, t.frame(LEAST));
        due("19: no such page at all", -1, t.frame(GREATEST));
        for (int i = 0; i < 32; i++) {
            t.insert(i / 16, 1);
        }
        due("19: not before the commit", -1, t.frame(0));
        t.commit(-1);
        for (int p = 0; p < 9; p++) {
            due("19: after the commit", p + 1, t.frame(p));
        }
        t.delete(0, 0);
        due("19: of the latest commit", 1, t.frame(0));
    }
}
