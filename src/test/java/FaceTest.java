import java.lang.reflect.Constructor;
import java.lang.reflect.Field;
import java.lang.reflect.Method;
import java.lang.reflect.Modifier;
import java.util.Set;
import java.util.TreeSet;

/** The public face: what the document lists, and nothing else that is not private. */
public final class FaceTest {
    private static final String METHODS = """
        int write(int, int, int, int)
        int read(int, int, int)
        int blockAt(int, int, int)
        int length(int, int)
        int punch(int, int, int, int)
        int reflink(int, int, int, int, int, int)
        int commit()
        int crash()
        int transaction()
        int snapshot(int)
        int readSnapshot(int, int, int)
        int blockInSnapshot(int, int, int)
        int transactionOf(int)
        int datasetOf(int)
        int snapshots(int)
        int snapshotAt(int, int)
        int destroySnapshot(int)
        int rollback(int, int)
        int changed(int, int)
        int datasets()
        int makeClone(int)
        int origin(int)
        int promote(int)
        int destroy(int)
        int referenced(int)
        int unique(int)
        int uniqueOfSnapshot(int)
        int newer(int, int)
        int birth(int)
        int references(int)
        int free()
        int pending()
        int freeIn(int)
        int logEntries(int)
        int runAt(int, int)
        boolean allocates(int, int)
        int replay(int)
        int condensed()
        """;

    public static void main(String[] args) {
        due("the methods", methodsOfTheFace(), new TreeSet<>(METHODS.lines().toList()));
        due("the fields", fieldsOfTheFace(), Set.of("public static final int NONE"));
        due("NONE", Cowmeadow.NONE, -1);
        Constructor<?>[] constructors = Cowmeadow.class.getDeclaredConstructors();
        due("how many constructors", constructors.length, 1);
        due("the constructor", constructors[0].toString(), "public Cowmeadow()");
        due("the class", Modifier.toString(Cowmeadow.class.getModifiers()), "public final");
        namesOfPrivateMethods();
        Run.end();
    }

    private static void due(String what, Object got, Object due) {
        if (!got.equals(due)) {
            Run.fail(what + ": got " + got + ", due is " + due);
        }
    }

    private static Set<String> methodsOfTheFace() {
        Set<String> found = new TreeSet<>();
        for (Method method : Cowmeadow.class.getDeclaredMethods()) {
            if (!Modifier.isPrivate(method.getModifiers()) && !method.isSynthetic()) {
                due(method.getName(), Modifier.toString(method.getModifiers()), "public");
                StringBuilder types = new StringBuilder();
                for (Class<?> type : method.getParameterTypes()) {
                    types.append(types.length() == 0 ? "" : ", ").append(type);
                }
                found.add(method.getReturnType() + " " + method.getName() + "(" + types + ")");
            }
        }
        return found;
    }

    private static Set<String> fieldsOfTheFace() {
        Set<String> found = new TreeSet<>();
        for (Field field : Cowmeadow.class.getDeclaredFields()) {
            if (!Modifier.isPrivate(field.getModifiers()) && !field.isSynthetic()) {
                found.add(Modifier.toString(field.getModifiers()) + " " + field.getType() + " "
                    + field.getName());
            }
        }
        return found;
    }

    /** No private method bears the name of a public one. */
    private static void namesOfPrivateMethods() {
        Set<String> names = new TreeSet<>();
        for (String line : METHODS.lines().toList()) {
            names.add(line.substring(line.indexOf(' ') + 1, line.indexOf('(')));
        }
        checkPrivateNames(Cowmeadow.class, names);
        for (Class<?> inside : Cowmeadow.class.getDeclaredClasses()) {
            checkPrivateNames(inside, names);
        }
    }

    private static void checkPrivateNames(Class<?> owner, Set<String> names) {
        for (Method method : owner.getDeclaredMethods()) {
            if (Modifier.isPrivate(method.getModifiers()) && names.contains(method.getName())) {
                Run.fail("a private method bears a public name: " + method);
            }
        }
    }
}
