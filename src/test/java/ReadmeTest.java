import java.lang.reflect.InvocationTargetException;
import java.lang.reflect.Method;
import java.lang.reflect.Modifier;
import java.nio.file.Files;
import java.nio.file.Path;
import java.util.List;
import java.util.Set;
import java.util.TreeSet;
import java.util.regex.Matcher;
import java.util.regex.Pattern;

/** Makes the calls of README.md's example, as they stand there, and holds them against the answers that it gives. */
public final class ReadmeTest {
    private static final Pattern MADE = Pattern.compile(
            "TrackDisk x = new TrackDisk\\((\\d+), (\\d+)\\); +// (\\d+) tracks of (\\d+) sectors of 16 bytes, all 0");
    private static final Pattern CALL = Pattern.compile("x\\.(\\w+)\\((.*)\\); +// ([^:]+)(: .+)?");

    private final Due due = new Due();
    private final Set<String> shown = new TreeSet<>();
    private TrackDisk x = null;

    private static Method methodOf(String name) {
        for (Method m : TrackDisk.class.getDeclaredMethods()) {
            if (m.getName().equals(name) && isPublic(m)) {
                return m;
            }
        }
        return null;
    }

    private static boolean isPublic(Method m) {
        return Modifier.isPublic(m.getModifiers());
    }

    private static Object valueOf(String written, Class<?> type) {
        if (type == byte.class) {
            return (byte) Integer.parseInt(written.replace("(byte) ", ""));
        }
        return Integer.parseInt(written);
    }

    private static Object[] valuesOf(String written, Class<?>[] types) {
        String[] parts = written.isEmpty() ? new String[0] : written.split(", ");
        if (parts.length != types.length) {
            throw new IllegalArgumentException(parts.length + " arguments, due are " + types.length);
        }
        Object[] values = new Object[parts.length];
        for (int k = 0; k < parts.length; k++) {
            values[k] = valueOf(parts[k], types[k]);
        }
        return values;
    }

    /** In the example's own words: a number, NONE, no answer (of a void method), or throws and a class. */
    private String answerOf(Method m, Object[] values) throws IllegalAccessException {
        try {
            Object answer = m.invoke(x, values);
            return answer == null ? "no answer" : answer.toString();
        } catch (InvocationTargetException e) {
            return "throws " + e.getCause().getClass().getSimpleName();
        }
    }

    private void make(Matcher parts) {
        x = new TrackDisk(Integer.parseInt(parts.group(1)), Integer.parseInt(parts.group(2)));
        due.is("tracks", x.count(0), Integer.parseInt(parts.group(3)));
        due.is("sectors", x.count(1), Integer.parseInt(parts.group(4)));
    }

    private void call(String line, Matcher parts) throws IllegalAccessException {
        Method m = methodOf(parts.group(1));
        due.isTrue(line + " calls a method of the face on a disk that was made", m != null && x != null);
        if (m == null || x == null) {
            return;
        }
        shown.add(m.getName());
        String told = parts.group(3).equals("NONE") ? String.valueOf(TrackDisk.NONE) : parts.group(3);
        String answer = answerOf(m, valuesOf(parts.group(2), m.getParameterTypes()));
        due.isTrue(line + " (it answers: " + answer + ")", answer.equals(told));
    }

    private void line(String line) throws IllegalAccessException {
        Matcher made = MADE.matcher(line);
        Matcher call = CALL.matcher(line);
        if (made.matches()) {
            make(made);
        } else if (call.matches()) {
            call(line, call);
        } else {
            due.isTrue(line + " is a call with its answer", false);
        }
    }

    private void example(List<String> readme) throws IllegalAccessException {
        boolean inside = false;
        for (int k = 0; k < readme.size(); k++) {
            due.sentence("README.md, line " + (k + 1));
            String line = readme.get(k);
            if (line.startsWith("```")) {
                inside = line.equals("```java");
            } else if (inside) {
                line(line);
            }
        }
    }

    private void everyMethodIsShown() {
        due.sentence("README.md: how an object is made and called");
        for (Method m : TrackDisk.class.getDeclaredMethods()) {
            due.isTrue("the example calls " + m.getName(), !isPublic(m) || shown.contains(m.getName()));
        }
    }

    public static void main(String[] args) throws Exception {
        ReadmeTest test = new ReadmeTest();
        test.example(Files.readAllLines(Path.of("README.md")));
        test.everyMethodIsShown();
        test.due.end();
    }
}
