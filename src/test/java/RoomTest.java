import com.sun.management.ThreadMXBean;
import java.lang.management.ManagementFactory;
import java.util.function.ObjIntConsumer;

/**
 * All calls of one run live in one room of some 600,000 objects and 7.3 million fields and elements. No object takes
 * less than 16 bytes here, and none of the class's fields and elements less than 4, so few bytes are little room.
 */
public final class RoomTest extends Scenes {
    private static final int CALLS = 512;
    private static final long MOST_BYTES = 200_000;
    private static final ThreadMXBean threads = (ThreadMXBean) ManagementFactory.getThreadMXBean();

    public static void main(String[] args) {
        says("LANGUAGE.md, rule 12", "What a run makes is counted");
        // The first round loads what the runs use, which is no part of what a run makes.
        for (int round = 0; round < 2; round++) {
            boolean counts = round == 1;
            makesLittle(counts, "shapes of six vertices", RoomTest::drawSix);
            makesLittle(counts, "shapes of one vertex", (t, i) -> draw(t, POINT, i % 256, i % 256));
            makesLittle(counts, "areas that touch themselves", RoomTest::drawFaulty);
            makesNothing(counts, "select", (t, i) -> t.select(i % 2, i, LEAST, GREATEST));
            makesNothing(counts, "nearest", (t, i) -> t.nearest(i % 2, 1 + i % 16));
            makesNothing(counts, "join", (t, i) -> t.join(1000 * i));
            makesNothing(counts, "measure", (t, i) -> t.measure(i % 2, i % 16));
            makesNothing(counts, "delete, insert and update", RoomTest::changeRows);
            makesNothing(counts, "update and commit", RoomTest::updateAndCommit);
            makesNothing(counts, "rollback and crash", RoomTest::rollbackAndCrash);
        }
        checks.end();
    }

    private static void drawSix(SpatialTables t, int i) {
        draw(t, AREA, i % 100, 0, 200, 0, 255, 100, 200, 200, 100, 200, 0, 100);
    }

    private static void drawFaulty(SpatialTables t, int i) {
        draw(t, AREA, 0, 0, 200, 200, 200, 0, 0, 200 - i % 100);
    }

    private static void changeRows(SpatialTables t, int i) {
        t.delete(0, i % 16);
        t.insert(0, i);
        t.update(1, i % 16, i, true);
    }

    private static void updateAndCommit(SpatialTables t, int i) {
        t.update(i % 2, i % 16, -i, false);
        t.commit(i % 7 - 1);
    }

    private static void rollbackAndCrash(SpatialTables t, int i) {
        t.update(i % 2, i % 16, -i, false);
        t.rollback();
        t.crash();
    }

    /** Sixteen rows in each table, all of them committed. */
    private static SpatialTables full() {
        SpatialTables t = new SpatialTables();
        for (int table = 0; table < 2; table++) {
            for (int i = 0; i < 16; i++) {
                draw(t, LINE, 15 * i, 10 * i, 10 * i, 15 * i + 1, 200, 250 - table);
                t.insert(table, i);
            }
        }
        t.commit(-1);
        return t;
    }

    private static void makesNothing(boolean counts, String what, ObjIntConsumer<SpatialTables> step) {
        SpatialTables t = full();
        long before = threads.getCurrentThreadAllocatedBytes();
        for (int i = 0; i < CALLS; i++) {
            step.accept(t, i);
        }
        long made = threads.getCurrentThreadAllocatedBytes() - before;
        // What asking for the number makes is far below one object of each call.
        dueAtMost(counts, what + " makes objects", 8L * CALLS, made);
    }

    /** The whole run: making the object, filling its tables, and then the calls. */
    private static void makesLittle(boolean counts, String what, ObjIntConsumer<SpatialTables> step) {
        long before = threads.getCurrentThreadAllocatedBytes();
        SpatialTables t = full();
        for (int i = 0; i < CALLS; i++) {
            step.accept(t, i);
        }
        dueAtMost(counts, what + " take much room", MOST_BYTES, threads.getCurrentThreadAllocatedBytes() - before);
    }

    private static void dueAtMost(boolean counts, String what, long most, long made) {
        if (counts) {
            due(what + ", " + made + " bytes", true, made <= most);
        }
    }
}
