import java.util.ArrayList;
import java.util.Comparator;
import java.util.List;
import java.util.Random;

/** Long runs of calls, made from fixed seeds, on the program and on the model: every answer must be the same. */
public final class ModelTest {
    private static final int RUNS = 600;
    private static final int CALLS = 512;
    private static final Checks checks = new Checks();

    private final SpatialTables program = new SpatialTables();
    private final Model model = new Model();
    private final Random random;
    private final String name;
    // A run within a small corner of the plane has many sides that touch, a run in all of it has many nodes.
    private final int corner;
    private final int spread;
    // Runs with few crashes fill their tables and frames, runs with many begin anew again and again.
    private final int calm;
    private int calls = 0;

    private ModelTest(int seed) {
        random = new Random(seed);
        name = "run " + seed;
        spread = new int[] {4, 8, 16, 64, 256}[seed % 5];
        corner = random.nextInt(257 - spread);
        calm = new int[] {2, 10, 60}[seed % 3];
    }

    public static void main(String[] args) {
        for (int seed = 0; seed < RUNS && checks.wrong() < 20; seed++) {
            new ModelTest(seed).run();
        }
        checks.end();
    }

    private void due(String call, long want, long got) {
        calls++;
        checks.due(name + ", call " + calls + ", " + call, want, got);
    }

    private void run() {
        while (calls < CALLS - 60 && checks.wrong() < 20) {
            step();
        }
        lookAtAll();
    }

    private int chance(int n) {
        return random.nextInt(n);
    }

    private int pick(int... choices) {
        return choices[chance(choices.length)];
    }

    private int coordinate() {
        return chance(200) == 0 ? pick(-1, 256, Integer.MIN_VALUE, Integer.MAX_VALUE, 0, 255)
            : corner + chance(spread);
    }

    private int table() {
        return chance(60) == 0 ? pick(-1, 2, Integer.MIN_VALUE, Integer.MAX_VALUE) : chance(2);
    }

    private int row(int table) {
        int there = Math.max(1, Integer.bitCount(model.rows(table)));
        return chance(60) == 0 ? pick(-1, 16, Integer.MIN_VALUE, Integer.MAX_VALUE)
            : chance(chance(10) == 0 ? 16 : Math.min(16, there));
    }

    private int number() {
        return chance(20) == 0 ? pick(Integer.MIN_VALUE, Integer.MAX_VALUE) : chance(9) - 4;
    }

    private int limit() {
        int far = model.measure(chance(2), chance(16));
        return switch (chance(8)) {
            case 0 -> 0;
            case 1 -> pick(-1, 1, 2, Integer.MIN_VALUE, Integer.MAX_VALUE);
            case 2 -> chance(2 * spread * spread);
            default -> far < 0 ? chance(spread) : far + chance(3) - 1;
        };
    }

    private void step() {
        switch (chance(12)) {
            case 0, 1, 2 -> draw();
            case 3, 4 -> insertSome();
            case 5 -> changeSome();
            case 6 -> select();
            case 7 -> nearest();
            case 8 -> join();
            case 9 -> look();
            default -> keep();
        }
    }

    private void draw() {
        int kind = chance(3);
        int count = chance(10) == 0 ? chance(8) : kind == 0 ? 1 : kind + 1 + chance(6 - kind);
        List<int[]> vertices = new ArrayList<>();
        for (int i = 0; i < count; i++) {
            vertices.add(new int[] {coordinate(), coordinate()});
        }
        if (kind == 2 && chance(3) != 0) {
            sortRoundMiddle(vertices);
        }
        for (int[] v : vertices) {
            due("vertex(" + v[0] + ", " + v[1] + ")", model.vertex(v[0], v[1]), program.vertex(v[0], v[1]));
        }
        int asked = chance(40) == 0 ? pick(-1, 3, 0, 1, 2) : kind;
        due("shape(" + asked + ")", model.shape(asked), program.shape(asked));
    }

    /** Vertices at random seldom are an area; in this order they mostly are. */
    private void sortRoundMiddle(List<int[]> vertices) {
        double middleX = corner + spread / 2.0 + 0.1;
        double middleY = corner + spread / 2.0 + 0.2;
        vertices.sort(Comparator.comparingDouble(v -> Math.atan2(v[1] - middleY, v[0] - middleX)));
    }

    private void insertSome() {
        for (int i = chance(4); i >= 0; i--) {
            int table = table();
            int value = number();
            due("insert(" + table + ", " + value + ")", model.insert(table, value), program.insert(table, value));
        }
    }

    private void changeSome() {
        for (int i = pick(0, 0, 1, 16); i >= 0; i--) {
            change();
        }
    }

    private void change() {
        int table = table();
        int row = row(table);
        int value = number();
        if (chance(8) == 0) {
            due("delete(" + table + ", " + row + ")",
                model.delete(table, row) ? 1 : 0, program.delete(table, row) ? 1 : 0);
        } else {
            boolean move = chance(2) == 0;
            due("update(" + table + ", " + row + ", " + value + ", " + move + ")",
                model.update(table, row, value, move) ? 1 : 0, program.update(table, row, value, move) ? 1 : 0);
        }
    }

    private void select() {
        int table = table();
        int limit = limit();
        int low = chance(2) == 0 ? Integer.MIN_VALUE : number();
        int high = chance(2) == 0 ? Integer.MAX_VALUE : number();
        due("select(" + table + ", " + limit + ", " + low + ", " + high + ")",
            model.select(table, limit, low, high), program.select(table, limit, low, high));
        lookAtResults();
    }

    private void nearest() {
        int table = table();
        int k = chance(20) == 0 ? pick(0, 17, -1, Integer.MIN_VALUE, Integer.MAX_VALUE) : 1 + chance(16);
        due("nearest(" + table + ", " + k + ")", model.nearest(table, k), program.nearest(table, k));
        lookAtResults();
    }

    private void join() {
        int limit = limit();
        due("join(" + limit + ")", model.join(limit), program.join(limit));
        lookAtResults();
    }

    private void lookAtResults() {
        due("reads()", model.reads(), program.reads());
        for (int i = 0; i < 3; i++) {
            due("result(" + i + ")", model.result(i), program.result(i));
        }
        int i = pick(-1, chance(16), chance(256), 256, Integer.MIN_VALUE, Integer.MAX_VALUE);
        due("result(" + i + ")", model.result(i), program.result(i));
    }

    private void look() {
        int table = table();
        int row = row(table);
        due("measure(" + table + ", " + row + ")", model.measure(table, row), program.measure(table, row));
        due("value(" + table + ", " + row + ")", model.value(table, row), program.value(table, row));
        due("rows(" + table + ")", model.rows(table), program.rows(table));
        due("nodes(" + table + ")", model.nodes(table), program.nodes(table));
    }

    private void keep() {
        switch (chance(4 * calm)) {
            case 0 -> {
                model.crash();
                program.crash();
                calls++;
            }
            case 1 -> {
                model.rollback();
                program.rollback();
                calls++;
            }
            default -> {
                int most = chance(calm) == 0 ? chance(12) : pick(-1, -1, 11, 12, Integer.MIN_VALUE, Integer.MAX_VALUE);
                due("commit(" + most + ")", model.commit(most), program.commit(most));
            }
        }
        int p = pick(chance(9), chance(9), -1, 9);
        due("frame(" + p + ")", model.frame(p), program.frame(p));
        look();
    }

    private void lookAtAll() {
        for (int p = 0; p < 9; p++) {
            due("frame(" + p + ")", model.frame(p), program.frame(p));
        }
        for (int row = 0; row < 16; row++) {
            int table = chance(2);
            due("value(" + table + ", " + row + ")", model.value(table, row), program.value(table, row));
            due("measure(" + table + ", " + row + ")", model.measure(table, row), program.measure(table, row));
        }
    }
}
