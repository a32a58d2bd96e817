import java.io.IOException;
import java.lang.reflect.Method;
import java.lang.reflect.Modifier;
import java.nio.file.Files;
import java.nio.file.Path;
import java.util.ArrayList;
import java.util.List;
import java.util.regex.Matcher;
import java.util.regex.Pattern;

/** README.md tells of the class what is so: its example, and its table of calls. */
public final class ReadmeTest {
    private static final Checks CHECKS = new Checks("ReadmeTest");
    private static final Pattern EXCEPTION = Pattern.compile("\\w+Exception");

    public static void main(String[] args) throws IOException {
        List<String> lines = Files.readAllLines(Path.of("README.md"));
        theExampleAnswersAsItSays(lines);
        everyCallHasItsRow(lines);
        CHECKS.isTrue("README tells of 512 calls", String.join(" ", lines).contains("at most 512 calls"));
        CHECKS.end();
    }

    private static void theExampleAnswersAsItSays(List<String> lines) {
        CHECKS.about("README's example");
        SightGraph g = new SightGraph();
        g.begin(2);
        int a = g.event(0, -1, -1);
        told(lines, "int a = g.event(0, -1, -1);", a);
        int b = g.event(1, -1, -1);
        told(lines, "int b = g.event(1, -1, -1);", b);
        int c = g.event(0, a, b);
        told(lines, "int c = g.event(0, a, b);", c);
        int d = g.event(1, b, c);
        told(lines, "int d = g.event(1, b, c);", d);
        told(lines, "g.ancestor(d, a);", g.ancestor(d, a));
        told(lines, "g.own(d, a);", g.own(d, a));
        told(lines, "g.sees(d, a);", g.sees(d, a));
        told(lines, "g.strength(d, a);", g.strength(d, a));
        told(lines, "g.strongly(d, a);", g.strongly(d, a));
        told(lines, "g.round(d);", g.round(d));
        told(lines, "g.witness(d);", g.witness(d));
        int e = g.event(0, a, d);
        told(lines, "int e = g.event(0, a, d);", e);
        told(lines, "g.forked(e, 0);", g.forked(e, 0));
        told(lines, "g.sees(e, a);", g.sees(e, a));
        told(lines, "g.count(2);", g.count(2));
    }

    /** Behind the statement the example has a comment that begins with its answer. */
    private static void told(List<String> lines, String statement, Object answer) {
        String comment = "";
        for (String line : lines) {
            if (line.startsWith(statement)) {
                comment = line.substring(statement.length());
            }
        }
        Matcher first = Pattern.compile("^ +// (\\w+)").matcher(comment);
        CHECKS.due(statement, first.find() ? first.group(1) : "untold", String.valueOf(answer));
    }

    private static void everyCallHasItsRow(List<String> lines) {
        CHECKS.about("README's table of calls");
        for (Method method : SightGraph.class.getDeclaredMethods()) {
            if (Modifier.isPublic(method.getModifiers())) {
                String[] cells = rowOf(lines, method.getName() + "(");
                CHECKS.due("parameters of " + method.getName(), method.getParameterCount(), cells[1].split(",").length);
                CHECKS.due("exceptions of " + method.getName(), declared(method), named(cells[cells.length - 1]));
            }
        }
        CHECKS.due("the constructor's row", 4, rowOf(lines, "new SightGraph()").length);
    }

    private static String[] rowOf(List<String> lines, String call) {
        for (String line : lines) {
            if (line.startsWith("| `" + call)) {
                return line.split("\\|");
            }
        }
        return new String[] {"", "no row", ""};
    }

    private static List<String> declared(Method method) {
        List<String> found = new ArrayList<>();
        for (Class<?> exception : method.getExceptionTypes()) {
            found.add(exception.getSimpleName());
        }
        return found;
    }

    private static List<String> named(String cell) {
        List<String> found = new ArrayList<>();
        Matcher next = EXCEPTION.matcher(cell);
        while (next.find()) {
            found.add(next.group());
        }
        return found;
    }
}
