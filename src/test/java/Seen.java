import java.util.ArrayList;
import java.util.List;
import java.util.function.Supplier;

/**
 * All that later calls show of an object. Looking at the draft or the focus changes them, so each look is at an
 * object of its own, which the supplier makes anew by the same calls.
 */
final class Seen {
    private final List<String> answers = new ArrayList<>();
    private String after = "";

    static List<String> of(Supplier<SpatialTables> maker) {
        Seen seen = new Seen();
        seen.look("at once", maker.get());
        seen.lookAtDraft(maker);
        seen.lookAtFocus(maker.get());
        seen.lookAtQueries(maker.get());
        seen.lookAtCommits(maker);
        return seen.answers;
    }

    /** What calls show that change nothing. */
    static List<String> quietly(SpatialTables t) {
        Seen seen = new Seen();
        seen.look("at once", t);
        return seen.answers;
    }

    private void note(String call, long answer) {
        answers.add(after + ": " + call + " = " + answer);
    }

    private void look(String name, SpatialTables t) {
        after = name;
        for (int table = -1; table <= 2; table++) {
            note("rows of " + table, t.rows(table));
            note("nodes of " + table, t.nodes(table));
        }
        for (int table = 0; table < 2; table++) {
            for (int row = 0; row < 16; row++) {
                note("value of " + table + " " + row, t.value(table, row));
                note("measure of " + table + " " + row, t.measure(table, row));
            }
        }
        lookAtResults(t, 256);
        for (int p = -1; p <= 9; p++) {
            note("frame " + p, t.frame(p));
        }
    }

    private void lookAtResults(SpatialTables t, int last) {
        note("reads", t.reads());
        for (int i = -1; i <= last; i++) {
            note("result " + i, t.result(i));
        }
    }

    private void lookAtDraft(Supplier<SpatialTables> maker) {
        after = "draft";
        SpatialTables t = maker.get();
        for (int i = 0; i < 7; i++) {
            note("vertex", t.vertex(i, 10 * i));
        }
        for (int kind = 0; kind < 3; kind++) {
            t = maker.get();
            note("shape of " + kind, t.shape(kind));
            lookAtFocus(t);
        }
    }

    private static final int[] PLACES = {0, 0, 255, 0, 0, 255, 255, 255, 9, 9, 60, 61, 130, 120};

    /** Measures the focus from places all over the plane. */
    private void lookAtFocus(SpatialTables t) {
        for (int row = 15; row >= 0; row--) {
            t.delete(0, row);
        }
        note("insert the focus", t.insert(0, 1));
        note("its nodes", t.nodes(0));
        // A draft that was begun would join the first place, so it is closed by a shape before.
        t.shape(SpatialTables.POINT);
        for (int i = 0; i < PLACES.length; i += 2) {
            t.vertex(PLACES[i], PLACES[i + 1]);
            note("place " + i / 2, t.shape(SpatialTables.POINT));
            note("focus from place " + i / 2, t.measure(0, 0));
        }
    }

    private void lookAtQueries(SpatialTables t) {
        after = "queries";
        for (int table = 0; table < 2; table++) {
            note("select", t.select(table, 100, -5, 5));
            lookAtResults(t, 16);
            note("nearest", t.nearest(table, 3));
            lookAtResults(t, 16);
        }
        note("join", t.join(100));
        // Not all 256: an object is promised to answer 512 calls alone.
        lookAtResults(t, 100);
    }

    private void lookAtCommits(Supplier<SpatialTables> maker) {
        for (int most = -1; most <= 3; most++) {
            SpatialTables t = maker.get();
            after = "commit of " + most;
            note("writes", t.commit(most));
            look("commit of " + most, t);
        }
        SpatialTables back = maker.get();
        back.rollback();
        look("rollback", back);
        SpatialTables crashed = maker.get();
        crashed.crash();
        look("crash", crashed);
    }
}
