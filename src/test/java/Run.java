import java.lang.reflect.InvocationTargetException;
import java.lang.reflect.Method;
import java.util.ArrayList;
import java.util.List;

/**
 * A run of calls on a new object, written as lines such as "write(0, 0, 0, 5) = 0",
 * "allocates(0, 1) = true" or "birth(0) = throws.IllegalStateException". An argument 2..4 stands
 * for three calls, each with the same answer; the answer "any" takes all but an exception.
 */
final class Run {
    private static final int CALLS_OF_AN_OBJECT = 512;

    private static int wrong = 0;

    private final String title;
    private final Cowmeadow volume = new Cowmeadow();
    private int calls = 0;

    private Run(String title) {
        this.title = title;
    }

    static void of(String title, String lines) {
        Run run = new Run(title);
        for (String line : lines.split("\n")) {
            String text = line.trim();
            if (!text.isEmpty() && !text.startsWith("#")) {
                run.line(text);
            }
        }
    }

    static void fail(String what) {
        wrong++;
        System.out.println(what);
    }

    static void end() {
        System.out.println(wrong == 0 ? "all answers are as due" : wrong + " answers are not as due");
        if (wrong != 0) {
            System.exit(1);
        }
    }

    static String ask(Cowmeadow volume, String name, int[] arguments) {
        Method method = find(name);
        Object[] boxed = new Object[arguments.length];
        for (int i = 0; i < boxed.length; i++) {
            boxed[i] = arguments[i];
        }
        try {
            return String.valueOf(method.invoke(volume, boxed));
        } catch (InvocationTargetException e) {
            return "throws." + e.getCause().getClass().getSimpleName();
        } catch (ReflectiveOperationException e) {
            throw new IllegalArgumentException(name, e);
        }
    }

    private static Method find(String name) {
        for (Method method : Cowmeadow.class.getDeclaredMethods()) {
            if (method.getName().equals(name)) {
                return method;
            }
        }
        throw new IllegalArgumentException("no method " + name);
    }

    private void line(String text) {
        int open = text.indexOf('(');
        int close = text.indexOf(')');
        String name = text.substring(0, open);
        String inside = text.substring(open + 1, close).trim();
        String due = text.substring(text.indexOf('=') + 1).trim();
        String[] parts = inside.isEmpty() ? new String[0] : inside.split("\\s*,\\s*");
        for (int[] arguments : spread(parts)) {
            check(name, arguments, due);
        }
    }

    private static List<int[]> spread(String[] parts) {
        List<int[]> all = new ArrayList<>();
        all.add(new int[parts.length]);
        for (int i = 0; i < parts.length; i++) {
            String[] ends = parts[i].split("\\.\\.");
            int first = Integer.parseInt(ends[0]);
            int last = Integer.parseInt(ends[ends.length - 1]);
            List<int[]> longer = new ArrayList<>();
            for (int[] begun : all) {
                for (long value = first; value <= last; value++) {
                    int[] row = begun.clone();
                    row[i] = (int) value;
                    longer.add(row);
                }
            }
            all = longer;
        }
        return all;
    }

    private void check(String name, int[] arguments, String due) {
        calls++;
        String call = title + ", call " + calls + ", " + name + java.util.Arrays.toString(arguments);
        if (calls > CALLS_OF_AN_OBJECT) {
            fail(call + " is behind the last call that the document promises");
            return;
        }
        String got = ask(volume, name, arguments);
        boolean right = due.equals("any") ? !got.startsWith("throws.") : got.equals(due);
        if (!right) {
            fail(call + " answered " + got + ", due is " + due);
        }
    }
}
