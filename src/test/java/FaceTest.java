import java.lang.reflect.Constructor;
import java.lang.reflect.Field;
import java.lang.reflect.Method;
import java.lang.reflect.Modifier;
import java.util.Set;
import java.util.TreeSet;

/** The public face: what the document lists, and nothing else that is not private. */
public final class FaceTest {
    private static final String METHODS = """
        int write(int, int, int, int) throws IndexOutOfBoundsException, IllegalStateException
        int read(int, int, int) throws IndexOutOfBoundsException
        int blockAt(int, int, int) throws IndexOutOfBoundsException
        int length(int, int) throws IndexOutOfBoundsException
        int punch(int, int, int, int) throws IndexOutOfBoundsException, IllegalArgumentException
        int reflink(int, int, int, int, int, int) throws IndexOutOfBoundsException, IllegalArgumentException
        int commit()
        int crash()
        int transaction()
        int snapshot(int) throws IndexOutOfBoundsException, IllegalStateException
        int readSnapshot(int, int, int) throws IndexOutOfBoundsException
        int blockInSnapshot(int, int, int) throws IndexOutOfBoundsException
        int transactionOf(int) throws IndexOutOfBoundsException
        int datasetOf(int) throws IndexOutOfBoundsException
        int snapshots(int) throws IndexOutOfBoundsException
        int snapshotAt(int, int) throws IndexOutOfBoundsException
        int destroySnapshot(int) throws IndexOutOfBoundsException, IllegalStateException
        int rollback(int, int) throws IndexOutOfBoundsException, IllegalArgumentException, IllegalStateException
        int changed(int, int) throws IndexOutOfBoundsException
        int datasets()
        int makeClone(int) throws IndexOutOfBoundsException, IllegalStateException
        int origin(int) throws IndexOutOfBoundsException
        int promote(int) throws IndexOutOfBoundsException, IllegalStateException
        int destroy(int) throws IndexOutOfBoundsException, IllegalStateException
        int referenced(int) throws IndexOutOfBoundsException
        int unique(int) throws IndexOutOfBoundsException
        int uniqueOfSnapshot(int) throws IndexOutOfBoundsException
        int newer(int, int) throws IndexOutOfBoundsException
        int birth(int) throws IndexOutOfBoundsException, IllegalStateException
        int references(int) throws IndexOutOfBoundsException
        int free()
        int pending()
        int freeIn(int) throws IndexOutOfBoundsException
        int logEntries(int) throws IndexOutOfBoundsException
        int runAt(int, int) throws IndexOutOfBoundsException
        boolean allocates(int, int) throws IndexOutOfBoundsException
        int replay(int) throws IndexOutOfBoundsException
        int condensed()
        """;

    public static void main(String[] args) {
        due("the methods", methodsOfTheFace(), new TreeSet<>(METHODS.lines().toList()));
        due("the fields", fieldsOfTheFace(), Set.of("public static final int NONE"));
        due("NONE", Cowmeadow.NONE, -1);
        Constructor<?>[] constructors = Cowmeadow.class.getDeclaredConstructors();
        due("how many constructors", constructors.length, 1);
        due("the constructor", constructors[0].toString(), "public Cowmeadow()");
        due("the class", Modifier.toString(Cowmeadow.class.getModifiers()), "public final");
        classesInside();
        Run.end();
    }

    private static void due(String what, Object got, Object due) {
        if (!got.equals(due)) {
            Run.fail(what + ": got " + got + ", due is " + due);
        }
    }

    private static Set<String> methodsOfTheFace() {
        Set<String> found = new TreeSet<>();
        for (Method method : Cowmeadow.class.getDeclaredMethods()) {
            if (!Modifier.isPrivate(method.getModifiers()) && !method.isSynthetic()) {
                due(method.getName(), Modifier.toString(method.getModifiers()), "public");
                String thrown = joined(method.getExceptionTypes());
                found.add(method.getReturnType() + " " + method.getName() + "("
                    + joined(method.getParameterTypes()) + ")"
                    + (thrown.isEmpty() ? "" : " throws " + thrown));
            }
        }
        return found;
    }

    private static String joined(Class<?>[] types) {
        StringBuilder names = new StringBuilder();
        for (Class<?> type : types) {
            names.append(names.length() == 0 ? "" : ", ").append(type.getSimpleName());
        }
        return names.toString();
    }

    private static Set<String> fieldsOfTheFace() {
        Set<String> found = new TreeSet<>();
        for (Field field : Cowmeadow.class.getDeclaredFields()) {
            if (!Modifier.isPrivate(field.getModifiers()) && !field.isSynthetic()) {
                found.add(Modifier.toString(field.getModifiers()) + " " + field.getType() + " "
                    + field.getName());
            }
        }
        return found;
    }

    /** The classes inside are nobody else's, and no private method bears the name of a public one. */
    private static void classesInside() {
        Set<String> names = new TreeSet<>();
        for (String line : METHODS.lines().toList()) {
            names.add(line.substring(line.indexOf(' ') + 1, line.indexOf('(')));
        }
        checkPrivateNames(Cowmeadow.class, names);
        for (Class<?> inside : Cowmeadow.class.getDeclaredClasses()) {
            due("who sees " + inside, inside.getModifiers() & (Modifier.PUBLIC | Modifier.PROTECTED), 0);
            checkPrivateNames(inside, names);
        }
    }

    private static void checkPrivateNames(Class<?> owner, Set<String> names) {
        for (Method method : owner.getDeclaredMethods()) {
            if (Modifier.isPrivate(method.getModifiers()) && names.contains(method.getName())) {
                Run.fail("a private method bears a public name: " + method);
            }
        }
    }
}
