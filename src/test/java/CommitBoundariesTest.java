/** The sentences on pages, frames and crashes, and promises 16 to 19: one method for each that names a boundary. */
public final class CommitBoundariesTest extends Scenes {
    private static final String CHANGED =
        "A page is CHANGED if its rows (which are there, their values, kinds and vertices in their order) are not"
        + " the same in the present tables and in those of the latest commit.";
    private static final String NO_PAGE = "If no page is changed, 0, and nothing happens.";
    private static final String WITH_ROWS = "each changed page that has rows in the present tables";
    private static final String SWITCH =
        "then the SWITCH, by which these become the latest commit and the frames in which the changed pages and the"
        + " directory were before become free";
    private static final String NO_FRAMES =
        "-1, refused, if there are not as many free frames as pages and directory need.";
    private static final String CUT =
        "If most is not negative and less than the number of writes, there is a crash after so many writes, and the"
        + " frames that were written are free again";
    private static final String CRASH =
        "A CRASH: the present tables become those of the latest commit, the draft and the results are empty, there"
        + " is no focus, reads() is 0.";
    private static final String ROLLBACK = "The present tables become those of the latest commit.";
    private static final int DIRECTORY = 8;

    public static void main(String[] args) {
        rowsOfPages();
        changedRows();
        changedVertices();
        changedBack();
        framesAtFirst();
        framesThatAreFree();
        nothingChanged();
        nothingChangedAfterCommits();
        anyNumberOfWrites();
        risingPages();
        pagesWithoutRows();
        allRowsOut();
        leastFreeFrame();
        oldFramesComeFree();
        framesGoRound();
        notAsManyFrames();
        justAsManyFrames();
        refusedWhateverMost();
        cutAtAnyWrite();
        cutFramesAreFree();
        cutOnesOnlyTakeOut();
        crashAfterTheSwitch();
        noCrashAboveTheWrites();
        crashForgets();
        crashOfCommitForgets();
        crashWithNothing();
        rollsBack();
        rollbackKeepsTheRest();
        rollbackAfterACut();
        frameOfPages();
        noSuchFrame();
        fiveHundredAndTwelveCalls();
        checks.end();
    }

    /** A row for each of the 32 numbers, all with value 0; nothing is committed. */
    private static SpatialTables allRows() {
        SpatialTables t = withFocus(POINT, 9, 9);
        for (int i = 0; i < 32; i++) {
            t.insert(i / 16, 0);
        }
        return t;
    }

    /** The first rows of the first pages: page p is there if p is below the count. */
    private static SpatialTables firstPages(int count) {
        SpatialTables t = allRows();
        for (int i = 0; i < 32; i++) {
            if (i % 4 != 0 || i / 4 >= count) {
                t.delete(i / 16, i % 16);
            }
        }
        return t;
    }

    private static void changePage(SpatialTables t, int page, int value) {
        t.update(page / 4, page % 4 * 4, value, false);
    }

    /** Compares where the pages 0 .. 7 and the directory are. */
    private static void dueFrames(String what, SpatialTables t, int... want) {
        for (int p = 0; p <= DIRECTORY; p++) {
            due(what + ", frame of " + p, want[p], t.frame(p));
        }
    }

    private static void rowsOfPages() {
        says(TERMS, "PAGES 0 .. 7: page p of table 0, and page 4 + p of table 1, have the rows 4 p .. 4 p + 3 (p"
            + " from 0 to 3).");
        for (int table = 0; table < 2; table++) {
            for (int row = 0; row < 16; row++) {
                SpatialTables t = allRows();
                t.commit(-1);
                t.update(table, row, 1, false);
                due("row " + row + " of table " + table, 3, t.commit(-1));
                int changed = 4 * table + row / 4;
                for (int p = 0; p < 8; p++) {
                    due("page " + p, p == changed ? 0 : p + 1, t.frame(p));
                }
                due("directory", 10, t.frame(DIRECTORY));
            }
        }
    }

    private static void changedRows() {
        says(TERMS, CHANGED);
        SpatialTables t = withRow(POINT, 9, 9);
        due("a row comes", 3, t.commit(-1));
        t.update(0, 0, 2, false);
        due("another value", 3, t.commit(-1));
        t.update(0, 0, LEAST, false);
        due("the least value", 3, t.commit(-1));
        t.update(0, 0, GREATEST, false);
        due("the greatest value", 3, t.commit(-1));
        t.insert(0, GREATEST);
        due("a second row", 3, t.commit(-1));
        t.delete(0, 0);
        due("the first one goes, the second one is the same", 3, t.commit(-1));
        t.insert(0, 0);
        due("one with value 0 comes", 3, t.commit(-1));
        t.delete(0, 0);
        due("one with value 0 goes", 3, t.commit(-1));
        t.delete(0, 1);
        due("the last one goes", 2, t.commit(-1));
        due("nothing is left", 0, t.commit(-1));
    }

    private static void changedVertices() {
        says(TERMS, CHANGED);
        SpatialTables t = withRow(LINE, 1, 1, 5, 1, 3, 4);
        t.commit(-1);
        moveTo("the same again", t, 0, LINE, 1, 1, 5, 1, 3, 4);
        moveTo("backwards", t, 3, LINE, 3, 4, 5, 1, 1, 1);
        moveTo("another kind", t, 3, AREA, 3, 4, 5, 1, 1, 1);
        moveTo("from another vertex on, the same points", t, 3, AREA, 5, 1, 1, 1, 3, 4);
        moveTo("the same area again", t, 0, AREA, 5, 1, 1, 1, 3, 4);
        moveTo("a vertex more, the same points", t, 3, AREA, 5, 1, 3, 1, 1, 1, 3, 4);
        moveTo("a vertex less", t, 3, AREA, 5, 1, 1, 1, 3, 4);
        moveTo("another first x", t, 3, AREA, 6, 1, 1, 1, 3, 4);
        moveTo("another last x", t, 3, AREA, 6, 1, 1, 1, 4, 4);
        moveTo("another last y", t, 3, AREA, 6, 1, 1, 1, 4, 5);
        moveTo("a point", t, 3, POINT, 6, 1);
        moveTo("the same point", t, 0, POINT, 6, 1);
        moveTo("x and y changed over", t, 3, POINT, 1, 6);
    }

    /** Moves row 0 of table 0 and keeps its value: how many writes a commit takes then. */
    private static void moveTo(String what, SpatialTables t, int writes, int kind, int... xy) {
        due(what + " is drawn", 0, draw(t, kind, xy));
        t.update(0, 0, 1, true);
        due(what, writes, t.commit(-1));
    }

    private static void changedBack() {
        says(TERMS, CHANGED);
        SpatialTables t = withFocus(POINT, 9, 9);
        addRows(t, 0, 2);
        t.commit(-1);
        t.update(0, 0, 7, false);
        t.update(0, 0, 0, false);
        due("the value changed and changed back", 0, t.commit(-1));
        draw(t, POINT, 50, 50);
        t.update(0, 0, 0, true);
        draw(t, POINT, 9, 9);
        t.update(0, 0, 0, true);
        due("moved there and back", 0, t.commit(-1));
        t.delete(0, 1);
        t.insert(0, 1);
        due("taken out and put in", 0, t.commit(-1));
        t.insert(1, 5);
        t.delete(1, 0);
        due("put in and taken out", 0, t.commit(-1));
        t.delete(0, 0);
        t.delete(0, 1);
        t.insert(0, 1);
        t.insert(0, 0);
        due("the values of two rows changed over", 3, t.commit(-1));
    }

    private static void framesAtFirst() {
        says(TERMS, "Each page that has rows in the tables of the latest commit is in a frame, and so is the"
            + " DIRECTORY (at first in frame 0)");
        dueFrames("a new object", new SpatialTables(), -1, -1, -1, -1, -1, -1, -1, -1, 0);
        SpatialTables t = allRows();
        dueFrames("rows, but no commit", t, -1, -1, -1, -1, -1, -1, -1, -1, 0);
        due("all pages", 10, t.commit(-1));
        dueFrames("all pages", t, 1, 2, 3, 4, 5, 6, 7, 8, 9);
        t.delete(0, 0);
        dueFrames("changed since", t, 1, 2, 3, 4, 5, 6, 7, 8, 9);
    }

    private static void framesThatAreFree() {
        says(TERMS, "There are 16 FRAMES.");
        SpatialTables t = allRows();
        t.commit(-1);
        for (int page = 0; page < 6; page++) {
            changePage(t, page, 1);
        }
        due("all 7 free frames", 8, t.commit(-1));
        dueFrames("all 16 frames are used", t, 0, 10, 11, 12, 13, 14, 7, 8, 15);
        for (int page = 2; page < 8; page++) {
            changePage(t, page, 2);
        }
        due("all 7 free frames again", 8, t.commit(-1));
        dueFrames("from the least one on", t, 0, 10, 1, 2, 3, 4, 5, 6, 9);
    }

    private static void nothingChanged() {
        says("Promise 16", NO_PAGE);
        for (int most : new int[] {-1, LEAST, 0, 1, 2, 3, GREATEST}) {
            SpatialTables t = withRow(POINT, 9, 9);
            t.delete(0, 0);
            t.join(0);
            t.vertex(5, 5);
            due("a new object, most " + most, 0, t.commit(most));
            due("the directory stays", 0, t.frame(DIRECTORY));
            due("no crash, the draft stays", 2, t.vertex(6, 6));
            due("no crash, the focus stays", 0, t.insert(0, 1));
        }
    }

    private static void nothingChangedAfterCommits() {
        says("Promise 16", NO_PAGE);
        for (int most : new int[] {-1, LEAST, 0, 1, 2, 3, GREATEST}) {
            SpatialTables t = committedAndRead();
            due("after a commit of all, most " + most, 0, t.commit(most));
            due("nothing happens", true, Seen.quietly(t).equals(Seen.quietly(committedAndRead())));
            due("the draft stays", 2, t.vertex(6, 6));
        }
    }

    private static SpatialTables committedAndRead() {
        SpatialTables t = allRows();
        t.commit(-1);
        t.select(0, 0, 0, 0);
        t.vertex(5, 5);
        return t;
    }

    private static void anyNumberOfWrites() {
        says("Promise 16", "at most so many writes (a negative number: any number of them)");
        for (int most : new int[] {-1, -2, -10, LEAST, LEAST + 1}) {
            SpatialTables t = allRows();
            due("most " + most, 10, t.commit(most));
            due("the directory", 9, t.frame(DIRECTORY));
            due("no crash, the focus stays", 0, t.measure(1, 15));
            t.rollback();
            due("committed", 0xffff, t.rows(1));
        }
    }

    private static void risingPages() {
        says("Promise 16", "each changed page that has rows in the present tables, by rising numbers, into the"
            + " free frame with the least number (which is not free from then on); then the directory, likewise");
        for (int pages = 1; pages < 256; pages++) {
            SpatialTables t = allRows();
            for (int i = 0; i < 32; i++) {
                if ((pages >> i / 4 & 1) == 0) {
                    t.delete(i / 16, i % 16);
                }
            }
            due("pages " + pages, Integer.bitCount(pages) + 2, t.commit(-1));
            int next = 1;
            for (int p = 0; p < 8; p++) {
                boolean there = (pages >> p & 1) != 0;
                due("pages " + pages + ", frame of " + p, there ? next : -1, t.frame(p));
                next += there ? 1 : 0;
            }
            due("pages " + pages + ", directory", next, t.frame(DIRECTORY));
        }
    }

    private static void pagesWithoutRows() {
        says("Promise 16", WITH_ROWS);
        SpatialTables t = firstPages(3);
        t.commit(-1);
        dueFrames("three pages", t, 1, 2, 3, -1, -1, -1, -1, -1, 4);
        t.delete(0, 4);
        due("a page that has no rows any more", 2, t.commit(-1));
        dueFrames("it is in no frame", t, 1, -1, 3, -1, -1, -1, -1, -1, 0);
        t.insert(0, 1);
        due("a row of page 0", 3, t.commit(-1));
        dueFrames("its frame has come free", t, 2, -1, 3, -1, -1, -1, -1, -1, 4);
        t.delete(0, 8);
        t.insert(1, 1);
        due("one page goes, one page comes", 3, t.commit(-1));
        dueFrames("one goes, one comes", t, 2, -1, -1, -1, 0, -1, -1, -1, 1);
    }

    private static void allRowsOut() {
        says("Promise 16", WITH_ROWS);
        SpatialTables t = allRows();
        t.commit(-1);
        for (int row = 0; row < 16; row++) {
            t.delete(0, row);
            t.delete(1, row);
        }
        due("all pages go: directory and switch", 2, t.commit(-1));
        dueFrames("no pages", t, -1, -1, -1, -1, -1, -1, -1, -1, 0);
        t.rollback();
        due("nothing is committed", 0, t.rows(0) | t.rows(1));
        t.insert(0, 1);
        due("all frames are free again", 3, t.commit(-1));
        dueFrames("one page", t, 1, -1, -1, -1, -1, -1, -1, -1, 2);
    }

    private static void leastFreeFrame() {
        says("Promise 16", "into the free frame with the least number (which is not free from then on)");
        SpatialTables t = firstPages(8);
        t.commit(-1);
        changePage(t, 3, 1);
        t.commit(-1);
        dueFrames("frame 0 before frame 10", t, 1, 2, 3, 0, 5, 6, 7, 8, 10);
        changePage(t, 0, 1);
        changePage(t, 7, 1);
        t.commit(-1);
        dueFrames("4, 9, then 11", t, 4, 2, 3, 0, 5, 6, 7, 9, 11);
        changePage(t, 7, 2);
        t.commit(-1);
        dueFrames("1, then 8", t, 4, 2, 3, 0, 5, 6, 7, 1, 8);
    }

    private static void oldFramesComeFree() {
        says("Promise 16", SWITCH);
        SpatialTables t = firstPages(1);
        t.commit(-1);
        dueFrames("first", t, 1, -1, -1, -1, -1, -1, -1, -1, 2);
        changePage(t, 0, 1);
        t.commit(-1);
        // Not into its own frame, which is free only after the switch.
        dueFrames("second", t, 0, -1, -1, -1, -1, -1, -1, -1, 3);
        changePage(t, 0, 2);
        t.commit(-1);
        dueFrames("third", t, 1, -1, -1, -1, -1, -1, -1, -1, 2);
        t.rollback();
        due("the latest is committed", 2, t.value(0, 0));
    }

    private static void framesGoRound() {
        says("Promise 16", SWITCH);
        SpatialTables t = firstPages(6);
        t.commit(-1);
        for (int round = 1; round <= 40; round++) {
            for (int page = 0; page < 6; page++) {
                changePage(t, page, round);
            }
            due("round " + round, 8, t.commit(-1));
            // Seven frames of 0 .. 13 are used in turn: the pages take those that the round before has left.
            boolean odd = round % 2 == 1;
            due("round " + round + ", page 0", odd ? 0 : 1, t.frame(0));
            due("round " + round + ", page 1", odd ? 8 : 2, t.frame(1));
            due("round " + round + ", directory", odd ? 13 : 7, t.frame(DIRECTORY));
        }
    }

    /** Commits so many pages, changes so many, and answers what a second commit answers. */
    private static int secondCommit(int first, int second, int most) {
        SpatialTables t = firstPages(first);
        due("first commit of " + first, first == 0 ? 0 : first + 2, t.commit(-1));
        for (int page = 0; page < second; page++) {
            if (page < first) {
                changePage(t, page, 1);
            }
        }
        putRowsInto(t, first, second);
        int answer = t.commit(most);
        if (answer < 0) {
            due("refused, the rows stay", 1, t.value(0, 0));
            due("refused, the directory stays", first == 0 ? 0 : first + 1, t.frame(DIRECTORY));
        }
        return answer;
    }

    /** Puts a row into each page from one to another; the rows before them are filled up and emptied again. */
    private static void putRowsInto(SpatialTables t, int from, int to) {
        for (int page = from; page < to; page++) {
            int table = page / 4;
            int before = t.rows(table);
            int row = page % 4 * 4;
            for (int i = 0; i <= row && (t.rows(table) >> row & 1) == 0; i++) {
                t.insert(table, 1);
            }
            for (int other = 0; other < row; other++) {
                if ((before >> other & 1) == 0) {
                    t.delete(table, other);
                }
            }
        }
    }

    private static void notAsManyFrames() {
        says("Promise 16", NO_FRAMES);
        for (int first = 0; first <= 8; first++) {
            for (int second = 1; second <= 8; second++) {
                int free = 16 - first - 1;
                int want = second + 1 > free ? -1 : second + 2;
                due(first + " pages, then " + second, want, secondCommit(first, second, -1));
            }
        }
    }

    private static void justAsManyFrames() {
        says("Promise 16", NO_FRAMES);
        SpatialTables t = allRows();
        t.commit(-1);
        for (int page = 0; page < 7; page++) {
            changePage(t, page, 1);
        }
        due("8 are needed, 7 are free", -1, t.commit(-1));
        for (int row = 0; row < 4; row++) {
            t.delete(0, row);
        }
        due("a page without rows needs none: 7 are needed", 8, t.commit(-1));
        dueFrames("7 pages are left", t, -1, 0, 10, 11, 12, 13, 14, 8, 15);
        for (int page = 1; page < 8; page++) {
            changePage(t, page, 2);
        }
        due("8 are needed, 8 are free", 9, t.commit(-1));
        dueFrames("8 are free", t, -1, 1, 2, 3, 4, 5, 6, 7, 9);
    }

    private static void refusedWhateverMost() {
        says("Promise 16", NO_FRAMES);
        for (int most : new int[] {-1, LEAST, 0, 1, 7, 8, 9, 10, 11, GREATEST}) {
            due("7 free, most " + most, -1, secondCommit(8, 8, most));
            due("8 free, most " + most, -1, secondCommit(7, 8, most));
        }
    }

    private static void cutAtAnyWrite() {
        says("Promise 16", CUT);
        for (int pages = 1; pages <= 8; pages++) {
            for (int most = 0; most < pages + 2; most++) {
                SpatialTables t = firstPages(pages);
                t.join(0);
                t.vertex(5, 5);
                String what = pages + " pages, cut at " + most;
                due(what, most, t.commit(most));
                due(what + ", no rows", 0, t.rows(0) | t.rows(1));
                dueFrames(what, t, -1, -1, -1, -1, -1, -1, -1, -1, 0);
                dueForgotten(what, t);
            }
        }
    }

    private static void dueForgotten(String what, SpatialTables t) {
        due(what + ", no focus", -1, t.insert(0, 1));
        due(what + ", no results", -1, t.result(0));
        due(what + ", no reads", 0, t.reads());
        due(what + ", no draft", 1, t.vertex(6, 6));
    }

    private static void cutFramesAreFree() {
        says("Promise 16", CUT);
        for (int most = 0; most <= 7; most++) {
            SpatialTables t = allRows();
            t.commit(-1);
            for (int round = 1; round <= 3; round++) {
                for (int page = 0; page < 6; page++) {
                    changePage(t, page, round);
                }
                due("cut at " + most, most, t.commit(most));
                dueFrames("cut at " + most, t, 1, 2, 3, 4, 5, 6, 7, 8, 9);
                due("cut at " + most + ", the old value", 0, t.value(1, 4));
            }
            for (int page = 0; page < 6; page++) {
                changePage(t, page, 9);
            }
            due("all 7 frames are free", 8, t.commit(-1));
            dueFrames("all 7 frames were free", t, 0, 10, 11, 12, 13, 14, 7, 8, 15);
        }
    }

    private static void cutOnesOnlyTakeOut() {
        says("Promise 16", CUT);
        for (int most = 0; most <= 3; most++) {
            SpatialTables t = firstPages(2);
            t.commit(-1);
            t.delete(0, 4);
            String what = "cut at " + most;
            due(what, Math.min(most, 2), t.commit(most));
            boolean done = most >= 2;
            due(what + ", rows", done ? 1 : 17, t.rows(0));
            due(what + ", page 1", done ? -1 : 2, t.frame(1));
            due(what + ", directory", done ? 0 : 3, t.frame(DIRECTORY));
            due(what + ", focus", most <= 2 ? -1 : 1, t.insert(0, 1));
        }
    }

    private static void crashAfterTheSwitch() {
        says("Promise 16", "if it is that number, there is a crash after the switch");
        for (int pages = 1; pages <= 8; pages++) {
            SpatialTables t = firstPages(pages);
            t.join(0);
            t.vertex(5, 5);
            int rows = t.rows(0);
            int others = t.rows(1);
            String what = pages + " pages";
            due(what, pages + 2, t.commit(pages + 2));
            due(what + ", committed", rows, t.rows(0));
            due(what + ", committed too", others, t.rows(1));
            due(what + ", page 0", 1, t.frame(0));
            due(what + ", directory", pages + 1, t.frame(DIRECTORY));
            dueForgotten(what, t);
            due(what + ", nothing more to commit", 0, t.commit(0));
        }
    }

    private static void noCrashAboveTheWrites() {
        says("Promise 16", "The number of writes that were done.");
        for (int more : new int[] {1, 2, 100, GREATEST - 5}) {
            SpatialTables t = firstPages(3);
            t.vertex(5, 5);
            due("more than the writes by " + more, 5, t.commit(5 + more));
            due("the focus stays", 0, t.measure(0, 0));
            due("the draft stays", 2, t.vertex(6, 6));
            due("the directory", 4, t.frame(DIRECTORY));
            t.rollback();
            due("committed", 0x111, t.rows(0));
        }
    }

    private static SpatialTables readyToCrash() {
        SpatialTables t = withFocus(POINT, 9, 9);
        addRows(t, 0, 2);
        t.commit(-1);
        t.update(0, 0, 50, false);
        draw(t, POINT, 90, 90);
        t.update(0, 1, 51, true);
        t.insert(0, 52);
        t.insert(1, 53);
        t.select(0, GREATEST, LEAST, GREATEST);
        addVertices(t, 1, 1, 2, 2);
        return t;
    }

    private static void crashForgets() {
        says(TERMS, CRASH);
        SpatialTables t = readyToCrash();
        due("results before", 3, t.reads());
        t.crash();
        due("rows of table 0", 3, t.rows(0));
        due("rows of table 1", 0, t.rows(1));
        due("the old value", 0, t.value(0, 0));
        due("the old nodes", 9, t.nodes(0));
        due("no nodes", 0, t.nodes(1));
        due("no focus to measure", -1, t.measure(0, 0));
        dueFrames("the frames stay", t, 1, -1, -1, -1, -1, -1, -1, -1, 2);
        dueForgotten("a crash", t);
        t.shape(POINT);
        draw(t, POINT, 9, 9);
        due("the old place", 0, t.measure(0, 1));
    }

    private static void crashOfCommitForgets() {
        says(TERMS, CRASH);
        SpatialTables by = readyToCrash();
        by.crash();
        SpatialTables cut = readyToCrash();
        due("cut at 2", 2, cut.commit(2));
        due("a cut is a crash", true, Seen.quietly(by).equals(Seen.quietly(cut)));
        dueForgotten("a cut", cut);
    }

    private static void crashWithNothing() {
        says("Promise 18", "A crash.");
        SpatialTables t = new SpatialTables();
        t.crash();
        t.crash();
        due("a new object", 0, t.rows(0) | t.rows(1));
        due("its directory", 0, t.frame(DIRECTORY));
        due("its draft", 1, t.vertex(9, 9));
        due("draws again", 0, t.shape(POINT));
        due("puts in again", 0, t.insert(0, 1));
        t.crash();
        due("what was never committed", 0, t.rows(0));
        due("nothing is to be committed", 0, t.commit(-1));
    }

    private static void rollsBack() {
        says("Promise 17", ROLLBACK);
        SpatialTables t = readyToCrash();
        t.rollback();
        due("rows of table 0", 3, t.rows(0));
        due("rows of table 1", 0, t.rows(1));
        due("the old value", 0, t.value(0, 0));
        due("the old value too", 1, t.value(0, 1));
        due("the old place, from the focus", 81 * 81 * 2, t.measure(0, 1));
        due("the old nodes", 9, t.nodes(0));
        due("no nodes", 0, t.nodes(1));
        due("nothing is changed", 0, t.commit(-1));
        SpatialTables fresh = withRow(POINT, 9, 9);
        fresh.rollback();
        due("before any commit", 0, fresh.rows(0));
        fresh.rollback();
        due("twice", 0, fresh.rows(0));
    }

    private static void rollbackKeepsTheRest() {
        says("Promise 17", ROLLBACK);
        SpatialTables t = readyToCrash();
        t.rollback();
        dueResults("the results stay", t, 0, 1, 2);
        due("the reads stay", 3, t.reads());
        dueFrames("the frames stay", t, 1, -1, -1, -1, -1, -1, -1, -1, 2);
        due("the draft stays", 3, t.vertex(3, 1));
        due("the focus stays", 2, t.insert(0, 1));
        due("the focus is where it was", 0, t.measure(0, 2));
        due("the draft is what it was", 0, t.shape(AREA));
    }

    private static void rollbackAfterACut() {
        says("Promise 17", ROLLBACK);
        SpatialTables t = readyToCrash();
        t.commit(3);
        t.rollback();
        due("after a cut", 3, t.rows(0));
        due("after a cut, the value", 0, t.value(0, 0));
        t = readyToCrash();
        due("two pages, directory, switch", 4, t.commit(4));
        t.delete(0, 2);
        t.rollback();
        due("after a crash behind the switch", 7, t.rows(0));
        due("after it, the value", 50, t.value(0, 0));
        due("after it, the other table", 53, t.value(1, 0));
        t.update(0, 0, 99, false);
        t.rollback();
        due("the commit has values of its own", 50, t.value(0, 0));
    }

    private static void frameOfPages() {
        says("Promise 19", "The frame in which page p (0 .. 7) of the latest commit is, or the directory (p = 8)");
        SpatialTables t = firstPages(8);
        for (int p = 0; p < 8; p++) {
            due("before the commit", -1, t.frame(p));
        }
        t.commit(-1);
        dueFrames("after it", t, 1, 2, 3, 4, 5, 6, 7, 8, 9);
        t.delete(1, 12);
        changePage(t, 0, 1);
        dueFrames("changes do not count", t, 1, 2, 3, 4, 5, 6, 7, 8, 9);
        t.rollback();
        t.crash();
        dueFrames("nor does a crash", t, 1, 2, 3, 4, 5, 6, 7, 8, 9);
    }

    private static void noSuchFrame() {
        says("Promise 19", "-1 if the page has no rows there, or p is not 0 .. 8.");
        SpatialTables t = firstPages(8);
        t.commit(-1);
        for (int p : new int[] {-1, -2, 9, 10, 15, 16, 256, LEAST, LEAST + 8, GREATEST}) {
            due("p of " + p, -1, t.frame(p));
            due("p of " + p + ", a new object", -1, new SpatialTables().frame(p));
        }
        t.delete(0, 0);
        t.delete(1, 12);
        due("pages 0 and 7 go", 2, t.commit(-1));
        dueFrames("pages 0 and 7 have no rows", t, -1, 2, 3, 4, 5, 6, 7, -1, 0);
    }

    private static void fiveHundredAndTwelveCalls() {
        says("What it is", "An object is used for at most 512 calls after it has been made");
        SpatialTables t = new SpatialTables();
        t.vertex(9, 9);
        t.shape(POINT);
        t.insert(0, 0);
        t.insert(1, 0);
        int value = 0;
        for (int call = 5; call <= 510; call += 2) {
            value++;
            t.update(0, 0, value, false);
            due("commit, call " + (call + 1), call == 5 ? 4 : 3, t.commit(-1));
        }
        due("value, call 511", value, t.value(0, 0));
        due("join, call 512", 1, t.join(0));
    }
}
