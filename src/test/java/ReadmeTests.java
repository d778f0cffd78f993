import java.io.IOException;
import java.lang.reflect.InvocationTargetException;
import java.lang.reflect.Method;
import java.lang.reflect.Modifier;
import java.nio.file.Files;
import java.nio.file.Path;
import java.util.Arrays;
import java.util.HashMap;
import java.util.Map;
import java.util.regex.Matcher;
import java.util.regex.Pattern;

/** README.md: the calls that stand there answer what stands behind them, and each call is named there. */
public final class ReadmeTests extends Asking {
    private static final String OBJECT = "GrammarTools tools = new GrammarTools();";
    private static final Pattern CALL = Pattern.compile("tools\\.(\\w+)\\(([^)]*)\\); *// (-?\\d+)(: .*)?");
    private static final Map<String, Method> METHODS = new HashMap<>();

    public static void main(String[] args) throws IOException, IllegalAccessException, InvocationTargetException {
        for (Method m : GrammarTools.class.getDeclaredMethods()) {
            if (Modifier.isPublic(m.getModifiers())) {
                METHODS.put(m.getName(), m);
            }
        }
        String[] lines = Files.readString(Path.of("README.md")).split("\n");
        calls(lines);
        names(String.join("\n", lines));
        end("README.md says what is so");
    }

    private static void calls(String[] lines) throws IllegalAccessException, InvocationTargetException {
        GrammarTools tools = new GrammarTools();
        boolean inside = false;
        int calls = 0;
        for (String line : lines) {
            if (line.startsWith("```")) {
                inside = line.equals("```java");
            } else if (inside && !line.isBlank() && !line.equals(OBJECT)) {
                of(0, line);
                Matcher call = CALL.matcher(line);
                boolean isCall = call.matches() && METHODS.containsKey(call.group(1));
                due(isCall ? 1 : 0, 1);
                if (isCall) {
                    due(answer(tools, call.group(1), call.group(2)), Integer.parseInt(call.group(3)));
                    calls++;
                }
            }
        }
        of(0, "README.md has calls, and no more than an object is made for");
        due(calls > 50 && calls <= 512 ? 1 : 0, 1);
    }

    private static int answer(GrammarTools tools, String name, String told) throws IllegalAccessException, InvocationTargetException {
        String[] parts = told.isEmpty() ? new String[0] : told.split(", ");
        Object[] given = Arrays.stream(parts)
            .map(p -> p.equals("true") || p.equals("false") ? (Object) Boolean.valueOf(p) : (Object) Integer.valueOf(p))
            .toArray();
        return (int) METHODS.get(name).invoke(tools, given);
    }

    private static void names(String all) {
        for (String name : METHODS.keySet()) {
            of(0, "README.md names " + name);
            due(all.contains("`" + name + "`") ? 1 : 0, 1);
        }
        for (String name : new String[] {"NONE", "UNKNOWN", "OUTSIDE", "NOT", "FULL", "SPENT", "LARGE"}) {
            of(0, "README.md names " + name);
            due(all.contains("`" + name + "`") ? 1 : 0, 1);
        }
    }
}
