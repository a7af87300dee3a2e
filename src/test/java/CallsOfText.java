import java.util.ArrayList;
import java.util.List;
import java.util.Map;
import java.util.Set;
import java.util.TreeMap;
import java.util.TreeSet;
import java.util.regex.Matcher;
import java.util.regex.Pattern;

/** Which methods of a text call which, as far as names tell; each method is called Class.name. */
final class CallsOfText {
    private static final Pattern CLASS = Pattern.compile("^ *(public|private static) final class (\\w+) \\{$");
    private static final Pattern METHOD = Pattern.compile("^( {4}| {8})([a-z][^=;]*[ ]|[A-Z]\\w*[ ])?(\\w+)\\([^;]*\\) \\{$");
    private static final Pattern CALL = Pattern.compile("(\\w+\\.)?(?<!new )\\b(\\w+)\\(");

    private final Map<String, String> heads = new TreeMap<>();
    private final Map<String, String> bodies = new TreeMap<>();
    private final Map<String, Set<String>> called = new TreeMap<>();

    CallsOfText(String code) {
        String inside = "";
        String[] lines = code.split("\n");
        for (int i = 0; i < lines.length; i++) {
            Matcher begins = CLASS.matcher(lines[i]);
            if (begins.matches()) {
                inside = begins.group(2);
            }
            Matcher method = METHOD.matcher(lines[i]);
            if (method.matches()) {
                String name = inside + "." + method.group(3);
                heads.put(name, lines[i].trim());
                bodies.put(name, body(lines, i, method.group(1) + "}"));
            }
        }
        for (String method : bodies.keySet()) {
            called.put(method, callsIn(method));
        }
    }

    private static String body(String[] lines, int from, String last) {
        StringBuilder body = new StringBuilder();
        for (int i = from + 1; i < lines.length && !lines[i].equals(last); i++) {
            body.append(lines[i]).append('\n');
        }
        return body.toString();
    }

    /** A name alone is of the same class; behind a point it may be of any other class, or of this one. */
    private Set<String> callsIn(String method) {
        String own = method.substring(0, method.indexOf('.'));
        Set<String> calls = new TreeSet<>();
        Matcher call = CALL.matcher(bodies.get(method));
        while (call.find()) {
            if (call.group(1) == null) {
                add(calls, bodies.containsKey(own + "." + call.group(2)) ? own : "FewerMan", call.group(2));
            } else {
                Set<String> others = others(own, call.group(2));
                if (others.isEmpty()) {
                    add(calls, own, call.group(2));
                }
                calls.addAll(others);
            }
        }
        return calls;
    }

    private void add(Set<String> calls, String inside, String name) {
        if (bodies.containsKey(inside + "." + name)) {
            calls.add(inside + "." + name);
        }
    }

    private Set<String> others(String own, String name) {
        Set<String> others = new TreeSet<>();
        for (String method : bodies.keySet()) {
            if (method.endsWith("." + name) && !method.startsWith(own + ".")) {
                others.add(method);
            }
        }
        return others;
    }

    Set<String> methods() {
        return bodies.keySet();
    }

    /** The line with which the method begins. */
    String head(String method) {
        return heads.get(method);
    }

    Set<String> of(String method) {
        return called.get(method);
    }

    /** The most methods that can stand open at once from this one on, each once. */
    List<String> deepest(String method) {
        return deepest(method, new ArrayList<>());
    }

    private List<String> deepest(String method, List<String> open) {
        open.add(method);
        List<String> most = new ArrayList<>(open);
        for (String next : called.get(method)) {
            if (!open.contains(next)) {
                List<String> deeper = deepest(next, open);
                if (deeper.size() > most.size()) {
                    most = deeper;
                }
            }
        }
        open.remove(open.size() - 1);
        return most;
    }
}
