import java.lang.reflect.Array;
import java.lang.reflect.Constructor;
import java.lang.reflect.Field;
import java.lang.reflect.Method;
import java.lang.reflect.Modifier;
import java.nio.file.Files;
import java.nio.file.Path;
import java.util.ArrayList;
import java.util.Arrays;
import java.util.List;
import java.util.Set;
import java.util.TreeSet;
import java.util.regex.Matcher;
import java.util.regex.Pattern;

/** The face of the document, and of LANGUAGE.md what can be seen from the class and its text. */
public final class LanguageTest {
    private static final String[] FACE = {
        "int feed(int)", "int inn()", "int player(int,int)", "int of(int,int)", "int men(int,int)",
        "int row(int,int,int)", "int told(int)", "int push(int,int)", "int odds(int,int)",
        "int play(int,int,boolean)", "long wins(int,int,int,int,int)", "long mean(int,int,int,int)",
        "long series(int,int,int,int)", "long ends(int,int,int,int)", "int even(int,int)",
        "long purpose(int,int,int,int)", "int loses(int,int,int)", "int order(int,int,int)",
        "long orderMean(int,int,int)", "long stakes(int,int,int,int)", "long table(int,int,int)",
        "int book(int,int,boolean)", "int likely(int)", "int says(int)", "int tale(int)", "int looked()",
        "int act(int,int,int)", "int trace(int)", "int as(int,int)", "int image()", "int undo()", "int count(int)"};

    private LanguageTest() {
    }

    public static void main(String[] args) throws Exception {
        face();
        classes();
        room();
        text(Files.readString(Path.of("src/main/java/FewerMan.java")));
        Check.end("LanguageTest");
    }

    private static void face() {
        Class<?> face = FewerMan.class;
        Check.due("public and final", face.getModifiers(), Modifier.PUBLIC | Modifier.FINAL);
        Set<String> methods = new TreeSet<>();
        Set<String> names = new TreeSet<>();
        for (Method m : face.getDeclaredMethods()) {
            if (Modifier.isPublic(m.getModifiers())) {
                Check.due("modifiers of " + m, m.getModifiers(), Modifier.PUBLIC);
                methods.add(m.toString().replace("public ", "").replace("FewerMan.", ""));
                names.add(m.getName());
            }
        }
        Check.due("the face", methods.toString(), new TreeSet<>(Arrays.asList(FACE)).toString());
        for (Method m : face.getDeclaredMethods()) {
            if (!Modifier.isPublic(m.getModifiers())) {
                Check.due("private: " + m, Modifier.isPrivate(m.getModifiers()) ? 1 : 0, 1);
                Check.due("bears a name of the face: " + m, names.contains(m.getName()) ? 1 : 0, 0);
            }
        }
        Set<String> constants = new TreeSet<>();
        for (Field f : face.getDeclaredFields()) {
            if (!Modifier.isPrivate(f.getModifiers())) {
                Check.due("modifiers of " + f, f.getModifiers(), Modifier.PUBLIC | Modifier.STATIC | Modifier.FINAL);
                constants.add(f.getType() + " " + f.getName());
            }
        }
        Check.due("the constants", constants.toString(), "[int BAD, int FULL, int NONE, int STATE, long NO]");
        Constructor<?>[] constructors = face.getDeclaredConstructors();
        Check.due("constructors", constructors.length, 1);
        Check.due("the constructor", constructors[0].getModifiers(), Modifier.PUBLIC);
        Check.due("the constructor", constructors[0].getParameterCount(), 0);
    }

    private static void classes() {
        Class<?>[] inside = FewerMan.class.getDeclaredClasses();
        Check.due("at most twelve classes", inside.length < 12 ? 1 : 0, 1);
        for (Class<?> c : inside) {
            Check.due("static: " + c, Modifier.isStatic(c.getModifiers()) ? 1 : 0, 1);
            Check.due("not public: " + c, Modifier.isPublic(c.getModifiers()) ? 1 : 0, 0);
            members(c);
        }
        members(FewerMan.class);
    }

    private static void members(Class<?> c) {
        int fields = 0;
        for (Field f : c.getDeclaredFields()) {
            if (Modifier.isStatic(f.getModifiers())) {
                Check.due("final: " + f, Modifier.isFinal(f.getModifiers()) ? 1 : 0, 1);
            } else {
                fields++;
            }
        }
        Check.due("fields of " + c + ": " + fields, fields <= 20 ? 1 : 0, 1);
        for (Method m : c.getDeclaredMethods()) {
            Check.due("parameters of " + m, m.getParameterCount() <= 7 ? 1 : 0, 1);
            Check.due("synthetic: " + m, m.isSynthetic() ? 1 : 0, 0);
        }
    }

    /** What an object holds is so small that each of 512 calls could make a new one in the room that there is. */
    private static void room() throws Exception {
        List<Object> made = new ArrayList<>(List.of(new FewerMan()));
        long parts = 0;
        for (int i = 0; i < made.size(); i++) {
            Object one = made.get(i);
            if (one.getClass().isArray()) {
                parts += Array.getLength(one);
                for (int k = 0; one instanceof Object[] && k < Array.getLength(one); k++) {
                    comes(made, Array.get(one, k));
                }
                continue;
            }
            for (Field f : one.getClass().getDeclaredFields()) {
                if (!Modifier.isStatic(f.getModifiers())) {
                    parts++;
                    f.setAccessible(true);
                    comes(made, f.getType().isPrimitive() ? null : f.get(one));
                }
            }
        }
        Check.due("objects of a new one: " + made.size(), made.size() > 9 && made.size() * 512 <= 600_000 ? 1 : 0, 1);
        Check.due("parts of a new one: " + parts, parts > 99 && parts * 512 <= 7_300_000 ? 1 : 0, 1);
    }

    private static void comes(List<Object> made, Object one) {
        for (Object other : made) {
            if (one == other) {
                return;
            }
        }
        if (one != null) {
            made.add(one);
        }
    }

    private static void text(String source) {
        String code = source.replaceAll("(?s)/\\*.*?\\*/", "").replaceAll("//[^\n]*", "");
        List<String> words = List.of("throw", "throws", "try", "catch", "finally", "synchronized", "assert", "import",
            "package", "protected", "float", "double", "record", "enum", "volatile", "transient", "native", "yield");
        for (String word : words) {
            Check.due("the word " + word, Pattern.compile("\\b" + word + "\\b").matcher(code).find() ? 1 : 0, 0);
        }
        for (String sign : new String[] {"->", "::", "Exact(", "\"", "@", "static {", "hashCode", "equals", "toString"}) {
            Check.due("the sign " + sign, code.contains(sign) ? 1 : 0, 0);
        }
        Matcher library = Pattern.compile("\\b(Math|System|Integer|Long|Arrays)\\.(\\w+)").matcher(code);
        Set<String> allowed = Set.of("Math.max", "Math.min", "Math.abs", "System.arraycopy", "Integer.bitCount",
            "Long.MIN_VALUE");
        while (library.find()) {
            Check.due("the call " + library.group(), allowed.contains(library.group()) ? 1 : 0, 1);
        }
        for (int i = 0; i < source.length(); i++) {
            Check.due("a sign of the text at " + i, source.charAt(i) < 128 ? 1 : 0, 1);
        }
        methodLengths(source.split("\n"));
        CallsOfText calls = new CallsOfText(code);
        selves(calls);
        depth(calls);
        whatIsMade(code.split("\n"));
    }

    /** Rule 8: a method that calls itself is private and static. */
    private static void selves(CallsOfText calls) {
        for (String method : calls.methods()) {
            boolean good = !calls.of(method).contains(method) || calls.head(method).startsWith("private static ");
            Check.due("calls itself: " + method, good ? 1 : 0, 1);
        }
    }

    /** Rule 11: calls go at most eight deep, even if those that call one another count once each. */
    private static void depth(CallsOfText calls) {
        Check.due("methods of the text", calls.methods().size() > 80 ? 1 : 0, 1);
        for (String method : calls.methods()) {
            List<String> deepest = calls.deepest(method);
            Check.due("deep: " + deepest, deepest.size() <= 8 ? 1 : 0, 1);
        }
    }

    /** All rows are made with the object; later only an INN that was read is new, and its steps. */
    private static void whatIsMade(String[] lines) {
        Set<String> later = Set.of("room.inn = new Inn(reader);", "code = new int[read.codeSize];");
        Pattern field = Pattern.compile("^( {4}| {8})(private )?(final )?[\\w\\[\\]]+ \\w+ = new [^;]*;$");
        for (String line : lines) {
            if (line.contains("new ")) {
                boolean good = later.contains(line.trim()) || field.matcher(line).find();
                Check.due("made by a call: " + line.trim(), good ? 1 : 0, 1);
            }
        }
    }

    /** A method begins with a line of 4 or 8 blanks that ends with { and ends with } under that. */
    private static void methodLengths(String[] lines) {
        for (int i = 0; i < lines.length; i++) {
            Matcher begins = Pattern.compile("^( {4}| {8})[a-z].*\\) \\{$").matcher(lines[i]);
            if (begins.find()) {
                int end = i;
                while (!lines[end].equals(begins.group(1) + "}")) {
                    end++;
                }
                Check.due("lines of " + lines[i].trim() + " " + (end - i + 1), end - i + 1 <= 60 ? 1 : 0, 1);
            }
        }
    }
}
