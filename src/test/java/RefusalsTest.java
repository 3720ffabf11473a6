import java.util.ArrayList;
import java.util.List;
import java.util.function.Supplier;
import java.util.function.ToIntFunction;

/**
 * "A call that is refused changes nothing.": each call with each reason to refuse it, in several states. An object
 * that had the call and one that had not must show the same by all later calls.
 */
public final class RefusalsTest extends Scenes {
    private static final int REFUSED = -1;

    private record Call(String name, ToIntFunction<SpatialTables> made) { }

    private record State(String name, Supplier<SpatialTables> maker) { }

    public static void main(String[] args) {
        says(TERMS, "A call that is refused changes nothing.");
        List<State> states = List.of(
            new State("a new object", SpatialTables::new),
            new State("in the midst", RefusalsTest::inTheMidst),
            new State("no focus", RefusalsTest::noFocus),
            new State("all is full", RefusalsTest::allIsFull));
        for (State state : states) {
            for (Call call : refusedAlways()) {
                changesNothing(state, call);
            }
        }
        refusedFullDraft(states.get(3));
        refusedFullTables(states.get(3));
        refusedWithoutFocus(states.get(0));
        refusedWithoutFocus(states.get(2));
        refusedWithoutRow(states.get(0));
        refusedWithoutRow(states.get(1));
        refusedWithoutFrames(states.get(3));
        checks.end();
    }

    /** A commit, later changes, results, a focus and two vertices in the draft. */
    private static SpatialTables inTheMidst() {
        SpatialTables t = new SpatialTables();
        addPoints(t, 0, 10, 10, 60, 60, 13, 14, 200, 10, 9, 9, 70, 70);
        addPoints(t, 1, 10, 11, 61, 60);
        t.commit(-1);
        draw(t, AREA, 0, 0, 30, 0, 0, 30);
        t.insert(1, 7);
        t.delete(0, 3);
        t.update(0, 1, -3, false);
        draw(t, LINE, 5, 60, 60, 5);
        t.join(100);
        addVertices(t, 100, 100, 120, 130);
        return t;
    }

    private static SpatialTables noFocus() {
        SpatialTables t = inTheMidst();
        t.commit(-1);
        t.crash();
        t.insert(0, 1);
        t.update(0, 0, 4, false);
        t.join(2);
        addVertices(t, 7, 8);
        return t;
    }

    /** 32 rows that are committed and all changed since, all 256 pairs as results, six vertices in the draft. */
    private static SpatialTables allIsFull() {
        SpatialTables t = withFocus(LINE, 3, 3, 40, 50);
        addRows(t, 0, 16);
        addRows(t, 1, 16);
        t.commit(-1);
        for (int row = 0; row < 16; row++) {
            t.update(0, row, -row - 1, false);
            t.update(1, row, -row - 1, false);
        }
        t.join(0);
        addVertices(t, 1, 1, 2, 2, 3, 1, 4, 2, 5, 1, 6, 2);
        return t;
    }

    private static void changesNothing(State state, Call call) {
        String what = state.name + ", " + call.name;
        due(what, REFUSED, call.made.applyAsInt(state.maker.get()));
        List<String> with = Seen.of(() -> {
            SpatialTables t = state.maker.get();
            call.made.applyAsInt(t);
            return t;
        });
        List<String> without = Seen.of(state.maker);
        due(what + ", as many answers", without.size(), with.size());
        for (int i = 0; i < without.size(); i++) {
            if (!without.get(i).equals(with.get(i))) {
                due(what + " changed " + without.get(i) + " to " + with.get(i), true, false);
                return;
            }
        }
    }

    /** The calls that are refused in every state. */
    private static List<Call> refusedAlways() {
        List<Call> calls = new ArrayList<>();
        addVertexCalls(calls);
        for (int kind : new int[] {-1, 3, LEAST, GREATEST}) {
            calls.add(new Call("shape of " + kind, t -> t.shape(kind)));
        }
        for (int table : NO_TABLES) {
            addTableCalls(calls, table);
        }
        for (int row : NO_ROWS) {
            addRowCalls(calls, row);
        }
        for (int limit : new int[] {-1, LEAST}) {
            calls.add(new Call("select with limit " + limit, t -> t.select(0, limit, -9, 9)));
            calls.add(new Call("join with limit " + limit, t -> t.join(limit)));
        }
        for (int k : new int[] {0, 17, -1, LEAST, GREATEST}) {
            calls.add(new Call("nearest " + k, t -> t.nearest(0, k)));
        }
        return calls;
    }

    private static void addVertexCalls(List<Call> calls) {
        for (int c : new int[] {-1, 256, LEAST, GREATEST}) {
            calls.add(new Call("vertex with x " + c, t -> t.vertex(c, 9)));
            calls.add(new Call("vertex with y " + c, t -> t.vertex(9, c)));
        }
    }

    private static void addTableCalls(List<Call> calls, int table) {
        calls.add(new Call("insert into table " + table, t -> t.insert(table, 5)));
        calls.add(new Call("delete from table " + table, t -> answer(t.delete(table, 0))));
        calls.add(new Call("update of table " + table, t -> answer(t.update(table, 0, 5, false))));
        calls.add(new Call("move in table " + table, t -> answer(t.update(table, 0, 5, true))));
        calls.add(new Call("select from table " + table, t -> t.select(table, 9, -9, 9)));
        calls.add(new Call("nearest of table " + table, t -> t.nearest(table, 2)));
    }

    private static void addRowCalls(List<Call> calls, int row) {
        calls.add(new Call("delete of row " + row, t -> answer(t.delete(0, row))));
        calls.add(new Call("update of row " + row, t -> answer(t.update(0, row, 5, false))));
        calls.add(new Call("move of row " + row, t -> answer(t.update(1, row, 5, true))));
    }

    private static int answer(boolean done) {
        return done ? 1 : REFUSED;
    }

    private static void refusedFullDraft(State full) {
        changesNothing(full, new Call("a seventh vertex", t -> t.vertex(9, 9)));
    }

    private static void refusedFullTables(State full) {
        changesNothing(full, new Call("a 17th row in table 0", t -> t.insert(0, 5)));
        changesNothing(full, new Call("a 17th row in table 1", t -> t.insert(1, 5)));
    }

    private static void refusedWithoutFocus(State state) {
        for (int table = 0; table < 2; table++) {
            int which = table;
            changesNothing(state, new Call("insert without focus", t -> t.insert(which, 5)));
            changesNothing(state, new Call("move without focus", t -> answer(t.update(which, 0, 5, true))));
            changesNothing(state, new Call("select without focus", t -> t.select(which, 9, -9, 9)));
            changesNothing(state, new Call("nearest without focus", t -> t.nearest(which, 2)));
        }
    }

    /** Row 3 of table 0 and row 5 of table 1 are not there. */
    private static void refusedWithoutRow(State state) {
        changesNothing(state, new Call("delete of no row", t -> answer(t.delete(0, 3))));
        changesNothing(state, new Call("delete of no row", t -> answer(t.delete(1, 5))));
        changesNothing(state, new Call("update of no row", t -> answer(t.update(0, 3, 5, false))));
        changesNothing(state, new Call("move of no row", t -> answer(t.update(1, 5, 5, true))));
    }

    private static void refusedWithoutFrames(State full) {
        for (int most : new int[] {-1, LEAST, 0, 1, 8, 9, 10, 11, GREATEST}) {
            changesNothing(full, new Call("commit of " + most + " without frames", t -> t.commit(most)));
        }
    }
}
