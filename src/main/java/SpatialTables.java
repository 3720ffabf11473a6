import java.util.Arrays;

/**
 * Two tables of rows with a place in the plane: exact geometry on whole numbers, an index of nested
 * squares for each table, and commits that a crash can cut at any write.
 */
public final class SpatialTables {
    public static final int POINT = 0, LINE = 1, AREA = 2;

    private static final int TABLES = 2;
    private static final int ROWS = 16;
    private static final int ROWS_OF_A_PAGE = 4;
    private static final int PAGES_OF_A_TABLE = ROWS / ROWS_OF_A_PAGE;
    private static final int PAGES = TABLES * PAGES_OF_A_TABLE;
    private static final int FEW_ROWS = 4;
    private static final int MOST_VERTICES = 6;
    private static final int GREATEST_COORDINATE = 255;
    private static final int DEEPEST_LEVEL = 8;

    private static final int REFUSED = -1;
    private static final int NO_FAULT = 0;
    private static final int WRONG_COUNT = 1;
    private static final int EQUAL_VERTICES = 2;
    private static final int SIDES_TOUCH = 3;

    private final Table[] present = new Table[TABLES];
    private final Table[] committed = new Table[TABLES];
    private final Index[] indexes = new Index[TABLES];
    private final Frames frames = new Frames();
    private final Draft draft = new Draft();
    private Geometry focus = null;

    private final int[] answers = new int[ROWS * ROWS];
    private int answerCount = 0;
    private int readCount = 0;

    // Made once and used again by every query, so that queries make no objects.
    private final Distance measured = new Distance();
    private final Distance reach = new Distance();
    private final Distance[] distances = new Distance[ROWS];
    private final int[] order = new int[ROWS];

    public SpatialTables() {
        for (int table = 0; table < TABLES; table++) {
            present[table] = new Table();
            committed[table] = new Table();
            indexes[table] = new Index();
        }
        for (int row = 0; row < ROWS; row++) {
            distances[row] = new Distance();
        }
    }

    public int vertex(int x, int y) {
        return draft.append(x, y);
    }

    public int shape(int kind) {
        if (kind < POINT || kind > AREA) {
            return REFUSED;
        }
        if (!draft.hasCountFor(kind)) {
            draft.clear();
            return WRONG_COUNT;
        }
        Geometry drawn = draft.drawn(kind);
        draft.clear();
        int fault = drawn.fault();
        if (fault == NO_FAULT) {
            focus = drawn;
        }
        return fault;
    }

    public int insert(int table, int value) {
        if (!isTable(table) || focus == null) {
            return REFUSED;
        }
        int row = present[table].leastFreeRow();
        if (row == ROWS) {
            return REFUSED;
        }
        present[table].put(row, value, focus);
        indexes[table].add(focus.bound);
        return row;
    }

    public boolean delete(int table, int row) {
        if (placeOf(table, row) == null) {
            return false;
        }
        present[table].put(row, 0, null);
        indexes[table].rebuild(present[table]);
        return true;
    }

    public boolean update(int table, int row, int value, boolean move) {
        Geometry place = placeOf(table, row);
        if (place == null || (move && focus == null)) {
            return false;
        }
        present[table].put(row, value, move ? focus : place);
        if (move) {
            indexes[table].rebuild(present[table]);
        }
        return true;
    }

    public int select(int table, int limit, int low, int high) {
        if (!isTable(table) || focus == null || limit < 0) {
            return REFUSED;
        }
        clearAnswers();
        readCount = searchReads(focus, table, limit);
        int found = rowsFound(focus, table, limit);
        for (int row = 0; row < ROWS; row++) {
            int value = present[table].amountOf(row);
            if (hasBit(found, row) && low <= value && value <= high) {
                addAnswer(row);
            }
        }
        return answerCount;
    }

    public int nearest(int table, int k) {
        if (!isTable(table) || focus == null || k < 1 || k > ROWS) {
            return REFUSED;
        }
        clearAnswers();
        int ordered = orderByDistance(focus, present[table]);
        for (int i = 0; i < k && i < ordered; i++) {
            addAnswer(order[i]);
        }
        if (ordered < k) {
            readCount = indexes[table].size() + ordered;
        } else {
            readCount = readsWithin(focus.bound, table, distances[order[k - 1]]);
        }
        return answerCount;
    }

    public int join(int limit) {
        if (limit < 0) {
            return REFUSED;
        }
        clearAnswers();
        for (int a = 0; a < ROWS; a++) {
            Geometry place = present[0].placeAt(a);
            if (place != null) {
                readCount += searchReads(place, 1, limit);
                addPairs(a, rowsFound(place, 1, limit));
            }
        }
        return answerCount;
    }

    public int result(int i) {
        return i < 0 || i >= answerCount ? -1 : answers[i];
    }

    public int reads() {
        return readCount;
    }

    public int measure(int table, int row) {
        Geometry place = placeOf(table, row);
        if (place == null || focus == null) {
            return -1;
        }
        measured.between(focus, place);
        return measured.wholePart();
    }

    public int value(int table, int row) {
        return placeOf(table, row) == null ? 0 : present[table].amountOf(row);
    }

    public int rows(int table) {
        return isTable(table) ? present[table].rowBits() : -1;
    }

    public int nodes(int table) {
        return isTable(table) ? indexes[table].size() : -1;
    }

    public int commit(int most) {
        int changed = changedPages();
        if (changed == 0) {
            return 0;
        }
        int written = changed & pagesWithRows();
        int framesNeeded = Integer.bitCount(written) + 1;
        if (framesNeeded > frames.countFree()) {
            return REFUSED;
        }
        int writes = framesNeeded + 1;
        boolean reachesSwitch = most < 0 || most >= writes;
        if (reachesSwitch) {
            frames.switchTo(changed, written);
            keepPresentTables();
        }
        // Cut before the switch, the frames that were written are free again: they were never taken.
        if (most >= 0 && most <= writes) {
            crash();
        }
        return reachesSwitch ? writes : most;
    }

    public void rollback() {
        for (int table = 0; table < TABLES; table++) {
            present[table].copy(committed[table]);
            indexes[table].rebuild(present[table]);
        }
    }

    public void crash() {
        rollback();
        draft.clear();
        clearAnswers();
        focus = null;
    }

    public int frame(int p) {
        return frames.frameOf(p);
    }

    private static boolean isTable(int table) {
        return table >= 0 && table < TABLES;
    }

    private static boolean hasBit(int bits, int i) {
        return (bits >> i & 1) != 0;
    }

    /** The geometry of a row of a present table; null if there is no such table or row. */
    private Geometry placeOf(int table, int row) {
        return isTable(table) ? present[table].placeAt(row) : null;
    }

    private void clearAnswers() {
        answerCount = 0;
        readCount = 0;
    }

    private void addAnswer(int answer) {
        if (answerCount < answers.length) {
            answers[answerCount] = answer;
            answerCount++;
        }
    }

    private void addPairs(int a, int found) {
        for (int b = 0; b < ROWS; b++) {
            if (hasBit(found, b)) {
                addAnswer(ROWS * a + b);
            }
        }
    }

    /** The rows of a table, as bits, that a search finds. */
    private int rowsFound(Geometry from, int table, int limit) {
        int found = 0;
        for (int row = 0; row < ROWS; row++) {
            Geometry place = present[table].placeAt(row);
            // No geometry is nearer than its bound, so most rows need no exact look.
            if (place != null && from.bound.gapTo(place.bound) <= limit) {
                measured.between(from, place);
                found |= measured.isAtMost(limit) ? 1 << row : 0;
            }
        }
        return found;
    }

    private int searchReads(Geometry from, int table, int limit) {
        int count = Integer.bitCount(present[table].rowBits());
        if (count <= FEW_ROWS) {
            return count;
        }
        reach.become(limit, 1);
        return readsWithin(from.bound, table, reach);
    }

    private int readsWithin(Bound from, int table, Distance most) {
        return indexes[table].countWithin(from, most) + present[table].countWithin(from, most);
    }

    /** Puts the rows of a table in order of distance, equal ones by number: how many there are. */
    private int orderByDistance(Geometry from, Table table) {
        int ordered = 0;
        for (int row = 0; row < ROWS; row++) {
            Geometry place = table.placeAt(row);
            if (place != null) {
                distances[row].between(from, place);
                putInOrder(row, ordered);
                ordered++;
            }
        }
        return ordered;
    }

    private void putInOrder(int row, int ordered) {
        int at = ordered;
        while (at > 0 && distances[row].isBelow(distances[order[at - 1]])) {
            order[at] = order[at - 1];
            at--;
        }
        order[at] = row;
    }

    private static int pageBit(int table, int row) {
        return 1 << (PAGES_OF_A_TABLE * table + row / ROWS_OF_A_PAGE);
    }

    private int changedPages() {
        int pages = 0;
        for (int table = 0; table < TABLES; table++) {
            for (int row = 0; row < ROWS; row++) {
                if (!present[table].hasSameRow(committed[table], row)) {
                    pages |= pageBit(table, row);
                }
            }
        }
        return pages;
    }

    private int pagesWithRows() {
        int pages = 0;
        for (int table = 0; table < TABLES; table++) {
            for (int row = 0; row < ROWS; row++) {
                if (present[table].placeAt(row) != null) {
                    pages |= pageBit(table, row);
                }
            }
        }
        return pages;
    }

    private void keepPresentTables() {
        for (int table = 0; table < TABLES; table++) {
            committed[table].copy(present[table]);
        }
    }

    /** The vertices that the next shape is made of. */
    private static final class Draft {
        private final int[] xs = new int[MOST_VERTICES];
        private final int[] ys = new int[MOST_VERTICES];
        private int size = 0;

        int append(int x, int y) {
            if (size >= MOST_VERTICES || !isCoordinate(x) || !isCoordinate(y)) {
                return REFUSED;
            }
            xs[size] = x;
            ys[size] = y;
            size++;
            return size;
        }

        void clear() {
            size = 0;
        }

        boolean hasCountFor(int kind) {
            if (kind == POINT) {
                return size == 1;
            }
            return size >= (kind == LINE ? 2 : 3);
        }

        Geometry drawn(int kind) {
            return new Geometry(kind, Arrays.copyOf(xs, size), Arrays.copyOf(ys, size));
        }

        private static boolean isCoordinate(int c) {
            return c >= 0 && c <= GREATEST_COORDINATE;
        }
    }

    /** The least rectangle around the vertices of a geometry. */
    private static final class Bound {
        final int x0;
        final int y0;
        final int x1;
        final int y1;

        Bound(int[] xs, int[] ys) {
            int left = GREATEST_COORDINATE;
            int right = 0;
            for (int x : xs) {
                left = Math.min(left, x);
                right = Math.max(right, x);
            }
            int bottom = GREATEST_COORDINATE;
            int top = 0;
            for (int y : ys) {
                bottom = Math.min(bottom, y);
                top = Math.max(top, y);
            }
            x0 = left;
            y0 = bottom;
            x1 = right;
            y1 = top;
        }

        int gapTo(Bound other) {
            return gapToRectangle(other.x0, other.y0, other.x1, other.y1);
        }

        /** The squared distance from another rectangle, which is always a whole number. */
        int gapToRectangle(int left, int bottom, int right, int top) {
            int dx = apart(x0, x1, left, right);
            int dy = apart(y0, y1, bottom, top);
            return dx * dx + dy * dy;
        }

        private static int apart(int low, int high, int otherLow, int otherHigh) {
            return Math.max(0, Math.max(otherLow - high, low - otherHigh));
        }

        /** The level of the smallest square that has all coordinates of this rectangle. */
        int homeLevel() {
            // A square of side 2^s has two coordinates of an axis if they differ in their last s bits alone.
            int differing = (x0 ^ x1) | (y0 ^ y1);
            int level = DEEPEST_LEVEL;
            while (level > 0 && differing >> (DEEPEST_LEVEL - level) != 0) {
                level--;
            }
            return level;
        }

        /** Which quarter of its square of the level above the square of this level is. */
        int quarter(int level) {
            int shift = DEEPEST_LEVEL - level;
            return (y0 >> shift & 1) * 2 + (x0 >> shift & 1);
        }
    }

    /** A point, a line or an area; it never changes, so tables may share it. */
    private static final class Geometry {
        final int kind;
        final int[] xs;
        final int[] ys;
        final Bound bound;

        Geometry(int kind, int[] xs, int[] ys) {
            this.kind = kind;
            this.xs = xs;
            this.ys = ys;
            this.bound = new Bound(xs, ys);
        }

        /** A point counts as one side from its vertex to itself, so that it needs no cases of its own. */
        int sides() {
            return kind == LINE ? xs.length - 1 : xs.length;
        }

        /** The vertex at which a side ends. */
        int end(int side) {
            return side + 1 < xs.length ? side + 1 : 0;
        }

        int fault() {
            if (kind != POINT && hasEqualNeighbours()) {
                return EQUAL_VERTICES;
            }
            return kind == AREA && touchesItself() ? SIDES_TOUCH : NO_FAULT;
        }

        private boolean hasEqualNeighbours() {
            for (int i = 0; i < sides(); i++) {
                if (xs[i] == xs[end(i)] && ys[i] == ys[end(i)]) {
                    return true;
                }
            }
            return false;
        }

        private boolean touchesItself() {
            for (int i = 0; i < sides(); i++) {
                for (int j = i + 1; j < sides(); j++) {
                    if (mayNotMeetAsTheyDo(i, j)) {
                        return true;
                    }
                }
            }
            return false;
        }

        private boolean mayNotMeetAsTheyDo(int i, int j) {
            if (end(i) == j) {
                return foldsBack(i, j);
            }
            if (end(j) == i) {
                return foldsBack(j, i);
            }
            return sideMeets(i, this, j);
        }

        /** Whether a side and the next one run over each other, not just meet where the one ends. */
        private boolean foldsBack(int side, int next) {
            int dx = xs[next] - xs[side];
            int dy = ys[next] - ys[side];
            int nextX = xs[end(next)] - xs[next];
            int nextY = ys[end(next)] - ys[next];
            return dx * nextY == dy * nextX && dx * nextX + dy * nextY < 0;
        }

        /** Whether a side and a side of a geometry have a point in common. */
        boolean sideMeets(int side, Geometry other, int otherSide) {
            int sideEnd = end(side);
            int otherEnd = other.end(otherSide);
            int from = turn(side, other.xs[otherSide], other.ys[otherSide]);
            int to = turn(side, other.xs[otherEnd], other.ys[otherEnd]);
            int otherFrom = other.turn(otherSide, xs[side], ys[side]);
            int otherTo = other.turn(otherSide, xs[sideEnd], ys[sideEnd]);
            return areOpposite(from, to) && areOpposite(otherFrom, otherTo)
                || from == 0 && isBeside(side, other, otherSide)
                || to == 0 && isBeside(side, other, otherEnd)
                || otherFrom == 0 && other.isBeside(otherSide, this, side)
                || otherTo == 0 && other.isBeside(otherSide, this, sideEnd);
        }

        private static boolean areOpposite(int a, int b) {
            return a < 0 && b > 0 || a > 0 && b < 0;
        }

        /** Above 0 if a point is to the left of a side, 0 if it is on the side's straight line. */
        private int turn(int side, int x, int y) {
            int dx = xs[end(side)] - xs[side];
            int dy = ys[end(side)] - ys[side];
            return dx * (y - ys[side]) - dy * (x - xs[side]);
        }

        /** Whether a vertex is in the bound of a side: if it is on its straight line too, it is on the side. */
        private boolean isBeside(int side, Geometry other, int corner) {
            return isBetween(other.xs[corner], xs[side], xs[end(side)])
                && isBetween(other.ys[corner], ys[side], ys[end(side)]);
        }

        private static boolean isBetween(int c, int one, int two) {
            return Math.min(one, two) <= c && c <= Math.max(one, two);
        }

        /** Whether this is an area with the point within its sides; on a side the answer may be either. */
        boolean encloses(int x, int y) {
            boolean within = false;
            if (kind != AREA) {
                return within;
            }
            for (int i = 0; i < sides(); i++) {
                boolean rises = ys[end(i)] > y;
                if (rises != ys[i] > y && rises == turn(i, x, y) > 0) {
                    within = !within;
                }
            }
            return within;
        }

        boolean isSameAs(Geometry other) {
            if (kind != other.kind || xs.length != other.xs.length) {
                return false;
            }
            for (int i = 0; i < xs.length; i++) {
                if (xs[i] != other.xs[i] || ys[i] != other.ys[i]) {
                    return false;
                }
            }
            return true;
        }
    }

    /** A squared distance, kept as an exact fraction: no product of two of its parts leaves a long. */
    private static final class Distance {
        // Farther than any two points of the plane.
        private static final long FAR = 1L << 20;

        private long top = 0;
        private long bottom = 1;

        void become(long newTop, long newBottom) {
            top = newTop;
            bottom = newBottom;
        }

        boolean isAtMost(int limit) {
            return top <= limit * bottom;
        }

        boolean isAtLeast(int whole) {
            return whole * bottom <= top;
        }

        boolean isBelow(Distance other) {
            return top * other.bottom < other.top * bottom;
        }

        int wholePart() {
            return bottom > 0 ? (int) (top / bottom) : 0;
        }

        void between(Geometry one, Geometry two) {
            // Each is in one piece: if no sides meet, one vertex tells whether it is within the other one.
            if (one.encloses(two.xs[0], two.ys[0]) || two.encloses(one.xs[0], one.ys[0])) {
                become(0, 1);
                return;
            }
            become(FAR, 1);
            for (int i = 0; i < one.sides(); i++) {
                for (int j = 0; j < two.sides() && top > 0; j++) {
                    lessenBySides(one, i, two, j);
                }
            }
        }

        private void lessenBySides(Geometry one, int i, Geometry two, int j) {
            if (one.sideMeets(i, two, j)) {
                become(0, 1);
                return;
            }
            // Sides that do not meet are nearest at an end of one of them.
            lessenByEnd(one, i, two, j);
            lessenByEnd(one, i, two, two.end(j));
            lessenByEnd(two, j, one, i);
            lessenByEnd(two, j, one, one.end(i));
        }

        private void lessenByEnd(Geometry one, int side, Geometry other, int corner) {
            long dx = one.xs[one.end(side)] - one.xs[side];
            long dy = one.ys[one.end(side)] - one.ys[side];
            long px = other.xs[corner] - one.xs[side];
            long py = other.ys[corner] - one.ys[side];
            long length = dx * dx + dy * dy;
            long along = px * dx + py * dy;
            if (along <= 0) {
                lessen(px * px + py * py, 1);
            } else if (along >= length) {
                lessen((px - dx) * (px - dx) + (py - dy) * (py - dy), 1);
            } else {
                long across = px * dy - py * dx;
                lessen(across * across, length);
            }
        }

        private void lessen(long otherTop, long otherBottom) {
            if (otherTop * bottom < top * otherBottom) {
                become(otherTop, otherBottom);
            }
        }
    }

    /** Rows by their numbers: a row is there if it has a geometry. */
    private static final class Table {
        private final int[] amounts = new int[ROWS];
        private final Geometry[] places = new Geometry[ROWS];

        void put(int row, int amount, Geometry place) {
            if (row >= 0 && row < ROWS) {
                amounts[row] = amount;
                places[row] = place;
            }
        }

        Geometry placeAt(int row) {
            return row >= 0 && row < ROWS ? places[row] : null;
        }

        int amountOf(int row) {
            return row >= 0 && row < ROWS ? amounts[row] : 0;
        }

        int leastFreeRow() {
            int row = 0;
            while (row < ROWS && places[row] != null) {
                row++;
            }
            return row;
        }

        int rowBits() {
            int bits = 0;
            for (int row = 0; row < ROWS; row++) {
                bits |= places[row] != null ? 1 << row : 0;
            }
            return bits;
        }

        int countWithin(Bound from, Distance most) {
            int count = 0;
            for (int row = 0; row < ROWS; row++) {
                Geometry place = places[row];
                if (place != null && most.isAtLeast(from.gapTo(place.bound))) {
                    count++;
                }
            }
            return count;
        }

        boolean hasSameRow(Table other, int row) {
            Geometry mine = placeAt(row);
            Geometry its = other.placeAt(row);
            if (mine == null || its == null) {
                return mine == null && its == null;
            }
            return amountOf(row) == other.amountOf(row) && mine.isSameAs(its);
        }

        void copy(Table other) {
            for (int row = 0; row < ROWS; row++) {
                amounts[row] = other.amounts[row];
                places[row] = other.places[row];
            }
        }
    }

    /** The nodes of a table as a tree of quarters, node 0 being the square of level 0. */
    private static final class Index {
        private static final int QUARTERS = 4;
        // Each row has at most one square of each level, and all share that of level 0.
        private static final int MOST_NODES = 1 + ROWS * DEEPEST_LEVEL;

        // No node has node 0 in it, so 0 stands for a quarter without a node.
        private final int[] parts = new int[QUARTERS * MOST_NODES];
        private final int[] x0 = new int[MOST_NODES];
        private final int[] y0 = new int[MOST_NODES];
        private final int[] x1 = new int[MOST_NODES];
        private final int[] y1 = new int[MOST_NODES];
        private int size = 0;

        int size() {
            return size;
        }

        void rebuild(Table table) {
            size = 0;
            for (int row = 0; row < ROWS; row++) {
                Geometry place = table.placeAt(row);
                if (place != null) {
                    add(place.bound);
                }
            }
        }

        void add(Bound bound) {
            int node = size == 0 ? newNode() : 0;
            stretch(node, bound);
            int home = bound.homeLevel();
            for (int level = 1; level <= home; level++) {
                node = partOf(node, bound.quarter(level));
                stretch(node, bound);
            }
        }

        private int partOf(int node, int quarter) {
            int at = QUARTERS * node + quarter;
            // The rows of a table never fill the room; the look keeps every index within it all the same.
            if (parts[at] == 0 && size < MOST_NODES) {
                parts[at] = newNode();
            }
            return parts[at];
        }

        private int newNode() {
            int node = size;
            size++;
            for (int quarter = 0; quarter < QUARTERS; quarter++) {
                parts[QUARTERS * node + quarter] = 0;
            }
            // Turned inside out, so that the first bound it is stretched to becomes its own.
            x0[node] = GREATEST_COORDINATE;
            y0[node] = GREATEST_COORDINATE;
            x1[node] = 0;
            y1[node] = 0;
            return node;
        }

        private void stretch(int node, Bound bound) {
            x0[node] = Math.min(x0[node], bound.x0);
            y0[node] = Math.min(y0[node], bound.y0);
            x1[node] = Math.max(x1[node], bound.x1);
            y1[node] = Math.max(y1[node], bound.y1);
        }

        int countWithin(Bound from, Distance most) {
            int count = 0;
            for (int node = 0; node < size; node++) {
                if (most.isAtLeast(from.gapToRectangle(x0[node], y0[node], x1[node], y1[node]))) {
                    count++;
                }
            }
            return count;
        }
    }

    /** The frames in which the pages and the directory of the latest commit are. */
    private static final class Frames {
        private static final int FRAMES = 16;
        private static final int DIRECTORY = PAGES;
        private static final int NONE = -1;

        private final int[] places = new int[PAGES + 1];

        Frames() {
            Arrays.fill(places, NONE);
            places[DIRECTORY] = 0;
        }

        int frameOf(int p) {
            return p >= 0 && p <= DIRECTORY ? places[p] : NONE;
        }

        int countFree() {
            return FRAMES - Integer.bitCount(takenFrames());
        }

        private int takenFrames() {
            int taken = 0;
            for (int place : places) {
                taken |= place != NONE ? 1 << place : 0;
            }
            return taken;
        }

        /** Moves the changed pages, of which those to be written have rows, and the directory. */
        void switchTo(int changed, int written) {
            // The old frames are free only after the last write, so they stay taken here.
            int taken = takenFrames();
            for (int page = 0; page < PAGES; page++) {
                if (hasBit(written, page)) {
                    places[page] = leastFree(taken);
                    taken |= 1 << places[page];
                } else if (hasBit(changed, page)) {
                    places[page] = NONE;
                }
            }
            places[DIRECTORY] = leastFree(taken);
        }

        private static int leastFree(int taken) {
            int frame = 0;
            while (frame < FRAMES - 1 && hasBit(taken, frame)) {
                frame++;
            }
            return frame;
        }
    }
}
