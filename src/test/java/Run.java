import java.lang.reflect.InvocationTargetException;
import java.lang.reflect.Method;
import java.util.ArrayList;
import java.util.Arrays;
import java.util.HashMap;
import java.util.List;
import java.util.Map;

/**
 * A run of calls on a new object, written as lines such as "write(0, 0, 0, 5) = 0",
 * "allocates(0, 1) = true" or "birth(0) = throws.IllegalStateException". An argument 2..4 stands
 * for three calls, each with the same answer; the answer "any" takes all but an exception.
 */
final class Run {
    static final int CALLS_OF_AN_OBJECT = 512;

    private static final Map<String, Method> METHODS = methodsByName();

    private static int wrong = 0;

    private final String title;
    private final Cowmeadow volume = new Cowmeadow();
    private int calls = 0;

    record Call(String name, int[] arguments, String due) {
        @Override
        public String toString() {
            return name + Arrays.toString(arguments);
        }
    }

    private Run(String title) {
        this.title = title;
    }

    static void of(String title, String lines) {
        Run run = new Run(title);
        for (Call call : calls(lines)) {
            run.check(call);
        }
    }

    /**
     * The lines that fill a new volume: the place k (16 times the file, plus the index) gets the
     * value 1000 + k, and the block k / 4 of the region k % 4.
     */
    static String filled() {
        StringBuilder lines = new StringBuilder();
        for (int k = 0; k < 128; k++) {
            lines.append(String.format("write(0, %d, %d, %d) = %d%n",
                k / 16, k % 16, 1000 + k, 32 * (k % 4) + k / 4));
        }
        return lines.toString();
    }

    static void fail(String what) {
        wrong++;
        System.out.println(what);
    }

    static void end() {
        System.out.println(wrong == 0 ? "all answers are as due" : wrong + " answers are not as due");
        if (wrong != 0) {
            System.exit(1);
        }
    }

    static String ask(Cowmeadow volume, String name, int[] arguments) {
        Method method = METHODS.get(name);
        if (method == null) {
            throw new IllegalArgumentException("no method " + name);
        }
        Object[] boxed = new Object[arguments.length];
        for (int i = 0; i < boxed.length; i++) {
            boxed[i] = arguments[i];
        }
        try {
            return String.valueOf(method.invoke(volume, boxed));
        } catch (InvocationTargetException e) {
            return "throws." + e.getCause().getClass().getSimpleName();
        } catch (ReflectiveOperationException e) {
            throw new IllegalArgumentException(name, e);
        }
    }

    static List<Call> calls(String lines) {
        List<Call> calls = new ArrayList<>();
        for (String line : lines.split("\n")) {
            String text = line.trim();
            if (!text.isEmpty() && !text.startsWith("#")) {
                calls.addAll(callsOfALine(text));
            }
        }
        return calls;
    }

    private static Map<String, Method> methodsByName() {
        Map<String, Method> methods = new HashMap<>();
        for (Method method : Cowmeadow.class.getMethods()) {
            if (method.getDeclaringClass() == Cowmeadow.class) {
                methods.put(method.getName(), method);
            }
        }
        return methods;
    }

    private static List<Call> callsOfALine(String text) {
        int open = text.indexOf('(');
        int close = text.indexOf(')');
        String name = text.substring(0, open);
        String inside = text.substring(open + 1, close).trim();
        String due = text.substring(text.indexOf('=') + 1).trim();
        String[] parts = inside.isEmpty() ? new String[0] : inside.split("\\s*,\\s*");
        List<Call> calls = new ArrayList<>();
        for (int[] arguments : spread(parts)) {
            calls.add(new Call(name, arguments, due));
        }
        return calls;
    }

    private static List<int[]> spread(String[] parts) {
        List<int[]> all = new ArrayList<>();
        all.add(new int[parts.length]);
        for (int i = 0; i < parts.length; i++) {
            String[] ends = parts[i].split("\\.\\.");
            int first = Integer.parseInt(ends[0]);
            int last = Integer.parseInt(ends[ends.length - 1]);
            List<int[]> longer = new ArrayList<>();
            for (int[] begun : all) {
                for (long value = first; value <= last; value++) {
                    int[] row = begun.clone();
                    row[i] = (int) value;
                    longer.add(row);
                }
            }
            all = longer;
        }
        return all;
    }

    private void check(Call call) {
        calls++;
        String what = title + ", call " + calls + ", " + call;
        if (calls > CALLS_OF_AN_OBJECT) {
            fail(what + " is behind the last call that the document promises");
            return;
        }
        String got = ask(volume, call.name(), call.arguments());
        boolean right = call.due().equals("any") ? !got.startsWith("throws.") : got.equals(call.due());
        if (!right) {
            fail(what + " answered " + got + ", due is " + call.due());
        }
    }
}
