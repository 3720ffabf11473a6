import java.math.BigInteger;
import java.util.ArrayList;
import java.util.Comparator;
import java.util.HashMap;
import java.util.List;
import java.util.Map;
import java.util.TreeMap;

/**
 * The document once more, in other ways than the program's: fractions of BigIntegers, winding numbers, nodes as
 * a map of squares, and a commit that writes page after page into frames and is read back from them.
 */
final class Model {
    record Fraction(BigInteger top, BigInteger bottom) implements Comparable<Fraction> {
        static Fraction of(long top, long bottom) {
            return bottom < 0 ? of(-top, -bottom) : new Fraction(BigInteger.valueOf(top), BigInteger.valueOf(bottom));
        }

        Fraction plus(Fraction o) {
            return new Fraction(top.multiply(o.bottom).add(o.top.multiply(bottom)), bottom.multiply(o.bottom));
        }

        Fraction times(Fraction o) {
            return new Fraction(top.multiply(o.top), bottom.multiply(o.bottom));
        }

        public int compareTo(Fraction o) {
            return top.multiply(o.bottom).compareTo(o.top.multiply(bottom));
        }

        boolean isShare() {
            return compareTo(ZERO) >= 0 && compareTo(ONE) <= 0;
        }
    }

    static final Fraction ZERO = Fraction.of(0, 1);
    static final Fraction ONE = Fraction.of(1, 1);

    record Vertex(int x, int y) { }

    record Side(Vertex from, Vertex to) {
        long dx() {
            return to.x - from.x;
        }

        long dy() {
            return to.y - from.y;
        }

        /** The square of the distance to the point of the side that is nearest to v. */
        Fraction squareTo(Vertex v) {
            long length = dx() * dx() + dy() * dy();
            Fraction share = length == 0 ? ZERO
                : Fraction.of((v.x - from.x) * dx() + (v.y - from.y) * dy(), length);
            share = share.compareTo(ZERO) < 0 ? ZERO : share.compareTo(ONE) > 0 ? ONE : share;
            Fraction ox = Fraction.of(from.x - v.x, 1).plus(share.times(Fraction.of(dx(), 1)));
            Fraction oy = Fraction.of(from.y - v.y, 1).plus(share.times(Fraction.of(dy(), 1)));
            return ox.times(ox).plus(oy.times(oy));
        }

        boolean has(Vertex v) {
            return squareTo(v).compareTo(ZERO) == 0;
        }

        /** Solves from + s d = o.from + t e; parallel sides meet at an end or not at all. */
        boolean meets(Side o) {
            long det = dx() * o.dy() - dy() * o.dx();
            if (det == 0) {
                return has(o.from) || has(o.to) || o.has(from) || o.has(to);
            }
            long gx = o.from.x - from.x;
            long gy = o.from.y - from.y;
            return Fraction.of(gx * o.dy() - gy * o.dx(), det).isShare()
                && Fraction.of(gx * dy() - gy * dx(), det).isShare();
        }
    }

    record Rectangle(int x0, int y0, int x1, int y1) {
        Rectangle with(Rectangle o) {
            return new Rectangle(Math.min(x0, o.x0), Math.min(y0, o.y0), Math.max(x1, o.x1), Math.max(y1, o.y1));
        }

        Fraction squareTo(Rectangle o) {
            long dx = o.x0 > x1 ? o.x0 - x1 : x0 > o.x1 ? x0 - o.x1 : 0;
            long dy = o.y0 > y1 ? o.y0 - y1 : y0 > o.y1 ? y0 - o.y1 : 0;
            return Fraction.of(dx * dx + dy * dy, 1);
        }
    }

    record Shape(int kind, List<Vertex> vertices) {
        List<Side> sides() {
            List<Side> sides = new ArrayList<>();
            for (int i = 0; i + 1 < vertices.size(); i++) {
                sides.add(new Side(vertices.get(i), vertices.get(i + 1)));
            }
            if (kind != 1) {
                sides.add(new Side(vertices.get(vertices.size() - 1), vertices.get(0)));
            }
            return sides;
        }

        Rectangle bound() {
            Rectangle bound = null;
            for (Vertex v : vertices) {
                Rectangle one = new Rectangle(v.x, v.y, v.x, v.y);
                bound = bound == null ? one : bound.with(one);
            }
            return bound;
        }

        int fault() {
            int n = vertices.size();
            if (kind == 0 ? n != 1 : kind == 1 ? n < 2 : n < 3) {
                return 1;
            }
            List<Side> sides = sides();
            for (Side side : sides) {
                if (kind != 0 && side.from.equals(side.to)) {
                    return 2;
                }
            }
            for (int i = 0; kind == 2 && i < n; i++) {
                for (int j = 0; j < n; j++) {
                    if (i != j && forbidden(sides, i, j)) {
                        return 3;
                    }
                }
            }
            return 0;
        }

        private static boolean forbidden(List<Side> sides, int i, int j) {
            int n = sides.size();
            Side one = sides.get(i);
            Side two = sides.get(j);
            if ((i + 1) % n == j) {
                return one.has(two.to) || two.has(one.from);
            }
            return (j + 1) % n != i && one.meets(two);
        }

        /** Whether an area has the point on its sides or winds round it. */
        boolean has(Vertex v) {
            if (kind != 2) {
                return false;
            }
            int winding = 0;
            for (Side side : sides()) {
                if (side.has(v)) {
                    return true;
                }
                long turn = side.dx() * (v.y - side.from.y) - side.dy() * (v.x - side.from.x);
                if (side.from.y <= v.y && side.to.y > v.y && turn > 0) {
                    winding++;
                } else if (side.from.y > v.y && side.to.y <= v.y && turn < 0) {
                    winding--;
                }
            }
            return winding != 0;
        }

        Fraction squareTo(Shape o) {
            for (Vertex v : vertices) {
                if (o.has(v)) {
                    return ZERO;
                }
            }
            for (Vertex v : o.vertices) {
                if (has(v)) {
                    return ZERO;
                }
            }
            Fraction least = null;
            for (Side a : sides()) {
                for (Side b : o.sides()) {
                    if (a.meets(b)) {
                        return ZERO;
                    }
                    for (Fraction f : List.of(a.squareTo(b.from), a.squareTo(b.to),
                            b.squareTo(a.from), b.squareTo(a.to))) {
                        least = least == null || f.compareTo(least) < 0 ? f : least;
                    }
                }
            }
            return least;
        }
    }

    record Row(int value, Shape shape) { }

    record Square(int level, int column, int line) { }

    private List<TreeMap<Integer, Row>> present = List.of(new TreeMap<>(), new TreeMap<>());
    private List<Vertex> draft = new ArrayList<>();
    private Shape focus = null;
    private List<Integer> results = new ArrayList<>();
    private int reads = 0;

    /** What each frame holds: the rows of a page, or a directory from page to frame; null if it is free. */
    private final Map<?, ?>[] frames = new Map<?, ?>[16];
    private int directory = 0;

    Model() {
        frames[0] = new HashMap<Integer, Integer>();
    }

    int vertex(int x, int y) {
        if (x < 0 || x > 255 || y < 0 || y > 255 || draft.size() == 6) {
            return -1;
        }
        draft.add(new Vertex(x, y));
        return draft.size();
    }

    int shape(int kind) {
        if (kind != 0 && kind != 1 && kind != 2) {
            return -1;
        }
        Shape shape = new Shape(kind, draft);
        draft = new ArrayList<>();
        int fault = shape.fault();
        focus = fault == 0 ? shape : focus;
        return fault;
    }

    int insert(int table, int value) {
        if (table != 0 && table != 1 || focus == null || present.get(table).size() == 16) {
            return -1;
        }
        int row = 0;
        while (present.get(table).containsKey(row)) {
            row++;
        }
        present.get(table).put(row, new Row(value, focus));
        return row;
    }

    private Row row(int table, int row) {
        return table == 0 || table == 1 ? present.get(table).get(row) : null;
    }

    boolean delete(int table, int row) {
        if (row(table, row) == null) {
            return false;
        }
        present.get(table).remove(row);
        return true;
    }

    boolean update(int table, int row, int value, boolean move) {
        Row old = row(table, row);
        if (old == null || move && focus == null) {
            return false;
        }
        present.get(table).put(row, new Row(value, move ? focus : old.shape));
        return true;
    }

    private Map<Square, Rectangle> index(int table) {
        Map<Square, Rectangle> index = new HashMap<>();
        for (Row row : present.get(table).values()) {
            Rectangle b = row.shape.bound();
            for (int level = 0; level <= 8; level++) {
                int side = 256 >> level;
                if (b.x0 / side == b.x1 / side && b.y0 / side == b.y1 / side) {
                    index.merge(new Square(level, b.x0 / side, b.y0 / side), b, Rectangle::with);
                }
            }
        }
        return index;
    }

    private int readsWithin(Rectangle from, int table, Fraction most) {
        List<Rectangle> all = new ArrayList<>(index(table).values());
        for (Row row : present.get(table).values()) {
            all.add(row.shape.bound());
        }
        int count = 0;
        for (Rectangle r : all) {
            count += from.squareTo(r).compareTo(most) <= 0 ? 1 : 0;
        }
        return count;
    }

    private List<Integer> search(Shape from, int table, int limit) {
        TreeMap<Integer, Row> rows = present.get(table);
        Fraction most = Fraction.of(limit, 1);
        reads += rows.size() <= 4 ? rows.size() : readsWithin(from.bound(), table, most);
        List<Integer> found = new ArrayList<>();
        for (int row : rows.keySet()) {
            if (from.squareTo(rows.get(row).shape).compareTo(most) <= 0) {
                found.add(row);
            }
        }
        return found;
    }

    int select(int table, int limit, int low, int high) {
        if (table != 0 && table != 1 || focus == null || limit < 0) {
            return -1;
        }
        reads = 0;
        results = search(focus, table, limit);
        results.removeIf(row -> row(table, row).value < low || row(table, row).value > high);
        return results.size();
    }

    int nearest(int table, int k) {
        if (table != 0 && table != 1 || focus == null || k < 1 || k > 16) {
            return -1;
        }
        List<Integer> all = new ArrayList<>(present.get(table).keySet());
        all.sort(Comparator.comparing((Integer row) -> focus.squareTo(row(table, row).shape))
            .thenComparing(row -> row));
        results = new ArrayList<>(all.subList(0, Math.min(k, all.size())));
        reads = all.size() < k ? all.size() + index(table).size()
            : readsWithin(focus.bound(), table, focus.squareTo(row(table, all.get(k - 1)).shape));
        return results.size();
    }

    int join(int limit) {
        if (limit < 0) {
            return -1;
        }
        reads = 0;
        results = new ArrayList<>();
        for (int a : present.get(0).keySet()) {
            for (int b : search(row(0, a).shape, 1, limit)) {
                results.add(16 * a + b);
            }
        }
        return results.size();
    }

    int result(int i) {
        return i >= 0 && i < results.size() ? results.get(i) : -1;
    }

    int reads() {
        return reads;
    }

    int measure(int table, int row) {
        if (row(table, row) == null || focus == null) {
            return -1;
        }
        Fraction square = focus.squareTo(row(table, row).shape);
        return square.top.divide(square.bottom).intValueExact();
    }

    int value(int table, int row) {
        return row(table, row) == null ? 0 : row(table, row).value;
    }

    int rows(int table) {
        if (table != 0 && table != 1) {
            return -1;
        }
        int bits = 0;
        for (int row : present.get(table).keySet()) {
            bits += 1 << row;
        }
        return bits;
    }

    int nodes(int table) {
        return table == 0 || table == 1 ? index(table).size() : -1;
    }

    private Map<?, ?> page(int p) {
        return new TreeMap<>(present.get(p / 4).subMap(p % 4 * 4, p % 4 * 4 + 4));
    }

    private int leastFree() {
        for (int frame = 0; frame < 16; frame++) {
            if (frames[frame] == null) {
                return frame;
            }
        }
        return -1;
    }

    /** Writes into the least free frame; false, and nothing is written, if there is none. */
    private boolean write(Map<?, ?> content, List<Integer> written) {
        int frame = leastFree();
        if (frame < 0) {
            return false;
        }
        frames[frame] = content;
        written.add(frame);
        return true;
    }

    int commit(int most) {
        Map<Integer, Integer> next = new HashMap<>();
        List<Integer> old = new ArrayList<>(List.of(directory));
        List<Integer> changed = new ArrayList<>();
        for (int p = 0; p < 8; p++) {
            int frame = frame(p);
            Map<?, ?> kept = frame < 0 ? Map.of() : frames[frame];
            if (!kept.equals(page(p))) {
                changed.add(p);
            } else if (frame >= 0) {
                next.put(p, frame);
            }
            if (changed.contains(p) && frame >= 0) {
                old.add(frame);
            }
        }
        if (changed.isEmpty()) {
            return 0;
        }
        List<Integer> written = new ArrayList<>();
        boolean room = true;
        for (int p : changed) {
            if (room && !page(p).isEmpty()) {
                room = write(page(p), written);
                next.put(p, room ? written.get(written.size() - 1) : -1);
            }
        }
        room = room && write(next, written);
        int writes = written.size() + 1;
        if (!room || most >= 0 && most < writes) {
            written.forEach(frame -> frames[frame] = null);
            if (room) {
                crash();
            }
            return room ? most : -1;
        }
        directory = written.get(written.size() - 1);
        old.forEach(frame -> frames[frame] = null);
        if (most == writes) {
            crash();
        }
        return writes;
    }

    void rollback() {
        present = List.of(new TreeMap<>(), new TreeMap<>());
        for (int p = 0; p < 8; p++) {
            if (frame(p) >= 0) {
                frames[frame(p)].forEach(new Loader(present.get(p / 4)));
            }
        }
    }

    private record Loader(TreeMap<Integer, Row> table) implements java.util.function.BiConsumer<Object, Object> {
        public void accept(Object row, Object content) {
            table.put((Integer) row, (Row) content);
        }
    }

    void crash() {
        rollback();
        draft = new ArrayList<>();
        results = new ArrayList<>();
        focus = null;
        reads = 0;
    }

    int frame(int p) {
        if (p == 8) {
            return directory;
        }
        Object frame = frames[directory].get(p);
        return frame == null ? -1 : (Integer) frame;
    }
}
