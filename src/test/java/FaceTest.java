import java.lang.reflect.Constructor;
import java.lang.reflect.Field;
import java.lang.reflect.Member;
import java.lang.reflect.Method;
import java.lang.reflect.Modifier;
import java.util.ArrayList;
import java.util.Arrays;
import java.util.List;
import java.util.Set;
import java.util.TreeSet;

/** The class has the document's face and no member besides that another class could see. */
public final class FaceTest {
    private static final List<String> FACE = List.of(
        "public static final int POINT", "public static final int LINE", "public static final int AREA",
        "public SpatialTables()",
        "public int vertex(int,int)", "public int shape(int)", "public int insert(int,int)",
        "public boolean delete(int,int)", "public boolean update(int,int,int,boolean)",
        "public int select(int,int,int,int)", "public int nearest(int,int)", "public int join(int)",
        "public int result(int)", "public int reads()", "public int measure(int,int)", "public int value(int,int)",
        "public int rows(int)", "public int nodes(int)", "public int commit(int)", "public void rollback()",
        "public void crash()", "public int frame(int)");

    private static final Checks checks = new Checks();

    public static void main(String[] args) {
        Class<?> face = SpatialTables.class;
        checks.due("public and final", Modifier.PUBLIC | Modifier.FINAL, face.getModifiers());
        checks.due("POINT", 0, SpatialTables.POINT);
        checks.due("LINE", 1, SpatialTables.LINE);
        checks.due("AREA", 2, SpatialTables.AREA);
        Set<String> missing = new TreeSet<>(FACE);
        Set<String> more = new TreeSet<>(seen(face));
        missing.removeAll(seen(face));
        FACE.forEach(more::remove);
        checks.due("not there: " + missing, 0, missing.size());
        checks.due("there beside the face: " + more, 0, more.size());
        checkNames(face);
        checkStatics(face);
        checks.end();
    }

    private static List<String> seen(Class<?> face) {
        List<String> seen = new ArrayList<>();
        for (Field field : face.getDeclaredFields()) {
            addSeen(seen, field, field.toString());
        }
        for (Constructor<?> constructor : face.getDeclaredConstructors()) {
            addSeen(seen, constructor, constructor.toString());
        }
        for (Method method : face.getDeclaredMethods()) {
            addSeen(seen, method, method.toString());
        }
        return seen;
    }

    private static void addSeen(List<String> seen, Member member, String text) {
        if (!Modifier.isPrivate(member.getModifiers()) && !member.isSynthetic()) {
            seen.add(text.replace("SpatialTables.", "").replaceAll(" +", " "));
        }
    }

    /** No private method, of the classes inside too, bears the name of a public one. */
    private static void checkNames(Class<?> face) {
        Set<String> names = new TreeSet<>();
        for (Method method : face.getMethods()) {
            names.add(method.getName());
        }
        List<Class<?>> all = new ArrayList<>(Arrays.asList(face.getDeclaredClasses()));
        all.add(face);
        for (Class<?> one : all) {
            for (Method method : one.getDeclaredMethods()) {
                boolean taken = names.contains(method.getName()) && !Modifier.isPublic(method.getModifiers());
                checks.due("name is taken: " + method, false, taken);
            }
        }
    }

    private static void checkStatics(Class<?> face) {
        List<Class<?>> all = new ArrayList<>(Arrays.asList(face.getDeclaredClasses()));
        for (Class<?> one : all) {
            checks.due("static: " + one, true, Modifier.isStatic(one.getModifiers()));
        }
        all.add(face);
        for (Class<?> one : all) {
            for (Field field : one.getDeclaredFields()) {
                int modifiers = field.getModifiers();
                checks.due("final: " + field, true, !Modifier.isStatic(modifiers) || Modifier.isFinal(modifiers));
            }
        }
    }
}
