import java.lang.reflect.Constructor;
import java.lang.reflect.Field;
import java.lang.reflect.Method;
import java.lang.reflect.Modifier;
import java.nio.file.Files;
import java.nio.file.Path;
import java.util.Arrays;
import java.util.List;
import java.util.TreeSet;
import java.util.regex.Matcher;
import java.util.regex.Pattern;

/** What can be seen of LANGUAGE.md in the class and its text. Runs in the project's folder. */
public final class RulesTest {
    private static final List<String> FACE = Arrays.asList("feed", "host", "type", "member", "subtype", "compile", "function", "code",
            "site", "entry", "name", "start", "steps", "task", "result", "sign", "global", "thing", "property", "shape", "output", "trace",
            "count");

    public static void main(String[] args) throws Exception {
        face();
        classes();
        text(Files.readString(Path.of("src/main/java/LinkedTongue.java")));
        Bench.end();
    }

    private static void face() {
        Bench.about("rule 1");
        TreeSet<String> open = new TreeSet<>();
        for (Method method : LinkedTongue.class.getDeclaredMethods()) {
            if (!Modifier.isPrivate(method.getModifiers())) {
                open.add(method.getName());
                Bench.due(method.getName() + " is public", Modifier.isPublic(method.getModifiers()), true);
            } else {
                Bench.due("private " + method.getName(), FACE.contains(method.getName()), false);
            }
        }
        Bench.due("the face", open.toString(), new TreeSet<>(FACE).toString());
        for (Field field : LinkedTongue.class.getDeclaredFields()) {
            Bench.due("field " + field.getName(), Modifier.isPrivate(field.getModifiers()), !field.getName().equals("NONE"));
        }
        Bench.due("constructors", LinkedTongue.class.getDeclaredConstructors().length, 1);
        for (Constructor<?> constructor : LinkedTongue.class.getDeclaredConstructors()) {
            Bench.due("public constructor", Modifier.isPublic(constructor.getModifiers()), true);
        }
        Bench.due("final", Modifier.isFinal(LinkedTongue.class.getModifiers()), true);
    }

    private static void classes() {
        Bench.about("rules 1, 2, 5 and 11");
        Class<?>[] inside = LinkedTongue.class.getDeclaredClasses();
        Bench.due("at most twelve classes", inside.length + 1 <= 12, true);
        for (Class<?> one : inside) {
            Bench.due(one.getName() + " is static", Modifier.isStatic(one.getModifiers()), true);
            int fields = 0;
            for (Field field : one.getDeclaredFields()) {
                boolean isStatic = Modifier.isStatic(field.getModifiers());
                fields += isStatic ? 0 : 1;
                Bench.due("static " + field.getName() + " is final", isStatic && !Modifier.isFinal(field.getModifiers()), false);
            }
            Bench.due(one.getName() + " has at most twenty fields", fields <= 20, true);
            for (Method method : one.getDeclaredMethods()) {
                Bench.due(one.getName() + "." + method.getName(), FACE.contains(method.getName()), false);
                Bench.due("parameters of " + method.getName(), method.getParameterCount() <= 7, true);
            }
        }
    }

    private static void text(String source) {
        Bench.about("rules 3 to 13");
        String code = source.replaceAll("(?s)/\\*.*?\\*/", "").replaceAll("//[^\n]*", "").replaceAll("\"(\\\\.|[^\"\\\\\n])*\"", "\"\"");
        String[] none = {"->", "::", "\\bfinally\\b", "\\bsynchronized\\b", "\\bassert\\b", "\\bstatic \\{", "Exact\\(", "\\bdouble\\b",
            "\\bfloat\\b", "\\bThread\\b", "\\bRandom\\b", "System\\.(?!arraycopy\\()", "\\bObject\\b", "\\bcatch \\((?!IllegalStateException )",
            "\"\" \\+", "\\+ \"\"", "\\bInteger\\.", "\\bimport (?!java\\.util\\.(Arrays|NoSuchElementException);)"};
        for (String one : none) {
            Matcher matcher = Pattern.compile(one).matcher(code);
            Bench.due("no " + one, matcher.find() ? matcher.group() : "", "");
        }
        makesLittle(code);
        String[] lines = source.split("\n");
        for (int i = 0; i < lines.length; i++) {
            Matcher head = Pattern.compile("( {4}| {8})\\w.*\\) (throws .*)?\\{").matcher(lines[i]);
            if (head.matches()) {
                int end = i;
                while (end < lines.length && !lines[end].equals(head.group(1) + "}")) {
                    end++;
                }
                Bench.due("at most sixty lines: " + lines[i].trim(), end - i + 1 <= 60, true);
            }
        }
    }

    /** Objects and arrays are made with the object and grow by copies: no method makes one, but exceptions. */
    private static void makesLittle(String code) {
        String[] lines = code.split("\n");
        String method = "";
        for (String line : lines) {
            Matcher head = Pattern.compile("( {4}| {8})(\\w[^=;]*\\)) (throws .*)?\\{").matcher(line);
            if (head.matches()) {
                method = head.group(2);
            }
            boolean makes = line.matches(".*\\bnew \\w.*") && !line.contains("throw new");
            boolean ofField = line.matches(" {4}( {4})?(private |final |static )*[\\w\\[\\]]+ \\w+ = new .*;");
            // Of a constructor the name is a class's; addAll() is called by that of Words alone.
            boolean ofConstructor = method.matches("(public )?[A-Z]\\w*\\(.*") || method.startsWith("private void addAll(");
            Bench.due("no object made: " + line.trim() + " in " + method, makes && !ofField && !ofConstructor, false);
        }
    }
}
