import java.lang.reflect.InvocationTargetException;
import java.lang.reflect.Method;
import java.lang.reflect.Proxy;
import java.util.ArrayList;
import java.util.Arrays;
import java.util.Collections;
import java.util.Comparator;
import java.util.HashMap;
import java.util.List;
import java.util.Map;
import java.util.Random;

/** Random hosts, units and runs, asked of the class and of a plain model that looks everything up from the beginning on. */
public final class ModelTest {
    private static final String[] CLASSES = {"I", "A", "B", "J", "C", "D"};
    private static final String[] FIELDS = {"a", "b", "n", "size", "x"};
    private static final String[] METHODS = {"getA", "isB", "setA", "setB", "m", "n", "getN", "isX", "setN", "pop", "push", "get_x",
            "getX", "m", "m", "m", "n", "setA", "setX", "xA", "A"};
    private static final String[] TYPES = {"int", "long", "bool", "Int", "Long", "Bool", "Text", "Any", "void", "A", "B", "I"};
    private static final String[] NAMES = {"a", "b", "o", "p", "q", "l", "t", "f", "g", "h"};
    private static final String[] PROPERTIES = {"a", "b", "n", "m", "x", "size", "q", "push", "pop", "sub", "a", "b", "n", "m", "getA",
            "setN"};
    private static final String[] NUMBERS = {"0", "1", "2", "3", "7", "2147483647", "(2147483647 + 1)", "-1", "(-2147483647 - 2)"};
    private static final String[] TEXTS = {"\"\"", "\"a\"", "\"b\"", "\"ab\"", "\"size\"", "\"A\"", "\"B\"", "\"I\"", "\"n\"", "\"proto\"",
            "\"q r\""};
    private static final String[] BUILTINS = {"print", "make", "proto", "kind", "host", "turn", "drop", "has"};
    private static final String[] OPERATORS = {"+", "-", "*", "/", "%", "==", "!=", "<", "<=", ">", ">=", "&&", "||"};
    private static final String[] ODD = {"(", ")", "{", "}", "[", "]", ",", ";", ".", ":", "=", "==", "!", "-", "...", "var", "fun", "if",
            "else", "while", "return", "throw", "try", "catch", "new", "this", "null", "print", "turn", "7",
        "99999999999", "\"t\"", "\"", "#", "a", "zz", "// c\n", "class", "interface", "static", "int", "void", "A", "B", "Any", "&", "a a",
        "2147483648"};

    private final Random random;
    private final boolean asksAll;
    private final Face model = new Model();
    /** What was done, in order; told is the model as it notes that. */
    private final List<Asked> story = new ArrayList<>();
    private final Face told = noting(story);
    private int depth;
    /** The classes told, a ! behind those that are no interfaces, and what the members of the latest one are known by. */
    private final List<String> types = new ArrayList<>();
    private final List<String> members = new ArrayList<>();
    private boolean isInterface;
    /** Whether there is a host, so that v, w, z, K and L are instances and classes of it. */
    private boolean isHosted;
    /** What a unit's statements are about: 0 all, 1 hosts, 2 shapes. */
    private int focus;

    private ModelTest(long seed, boolean asksAll) {
        random = new Random(seed);
        this.asksAll = asksAll;
    }

    public static void main(String[] args) throws ReflectiveOperationException {
        int many = args.length > 0 ? Integer.parseInt(args[0]) : 400;
        long first = args.length > 1 ? Long.parseLong(args[1]) : 20261119;
        for (int i = 0; i < many; i++) {
            Bench.about("as the model answers, seed " + (first + i));
            new ModelTest(first + i, args.length > 2).life();
        }
        Bench.end();
    }

    // What is random.

    private String one(String... some) {
        return some[random.nextInt(some.length)];
    }

    private boolean often(int percent) {
        return random.nextInt(100) < percent;
    }

    private String host() {
        StringBuilder text = new StringBuilder();
        types.clear();
        int classes = 1 + random.nextInt(6);
        for (int k = 0; k < classes; k++) {
            String name = CLASSES[k];
            isInterface = name.equals("I") || name.equals("J") || often(4);
            text.append(isInterface ? "interface " : "class ").append(often(98) ? name
                    : one(CLASSES)).append(' ').append(supers()).append("{ ");
            types.add(name + (isInterface ? "" : "!"));
            members.clear();
            int size = random.nextInt(14);
            for (int m = 0; m < size; m++) {
                String member = member();
                String key = member.contains("(") ? member.replaceAll("^(static )?\\w+ |\\.\\.\\.", "") : member.replaceAll(".* ", "");
                if (!members.contains(key) || often(2)) {
                    members.add(key);
                    text.append(member).append(' ');
                }
            }
            text.append(isInterface || often(5) ? "} " : one("new (); } ", "new (Any...); } ", "new (int, Any); new (Any...); } ",
                    "new (Any...); new (Int, Any); } ", "new (long...); new (Any); new (); } "));
        }
        return text.toString();
    }

    private String supers() {
        StringBuilder text = new StringBuilder();
        boolean has = isInterface;
        List<String> used = new ArrayList<>();
        for (int i = 0; i < 3 && !types.isEmpty() && often(60); i++) {
            String one = types.get(random.nextInt(types.size()));
            boolean isClass = one.endsWith("!");
            if (often(1) || !used.contains(one) && !(isClass && has)) {
                used.add(one);
                has = has || isClass;
                text.append(text.length() == 0 ? ": " : ", ").append(one.replace("!", ""));
            }
        }
        return text + (text.length() == 0 ? "" : " ");
    }

    private String type() {
        if (often(1)) {
            return one(TYPES);
        }
        return often(70) ? one("int", "Any", "Int", "long") : often(60) ? one("bool", "Long", "Bool", "Text", "int")
                : types.get(random.nextInt(types.size())).replace("!", "");
    }

    private String member() {
        String head = !isInterface && often(25) ? "static " : "";
        if (!isInterface && often(35)) {
            return head + type() + " " + one(FIELDS) + ";";
        }
        String name = one(METHODS);
        StringBuilder text = new StringBuilder(head + (often(15) || name.startsWith("set") && often(60) ? "void" : name.startsWith("is")
                && often(60) ? "bool" : type()) + " " + name + "(");
        int parameters = name.startsWith("set") && often(70) ? 1 : often(60) ? random.nextInt(2) : random.nextInt(4);
        for (int i = 0; i < parameters; i++) {
            text.append(i == 0 ? "" : ", ").append(type());
        }
        return text + (parameters > 0 && often(25) ? "...);" : ");");
    }

    private String es(int most) {
        StringBuilder text = new StringBuilder();
        int es = random.nextInt(most + 1);
        for (int i = 0; i < es; i++) {
            text.append(i == 0 ? "" : ", ").append(e());
        }
        return text.toString();
    }

    private String goal() {
        if (isHosted && often(35)) {
            return one("v", "w", "z", "K", "L", "v", "w");
        }
        return often(75) ? one(NAMES) : often(40) ? "this" : "(" + e() + ")";
    }

    private String e() {
        depth++;
        String text = depth > 4 ? leaf() : branch();
        depth--;
        return text;
    }

    private String leaf() {
        switch (random.nextInt(isHosted ? 7 : 6)) {
            case 0:
                return one(NUMBERS);
            case 1:
                return one(TEXTS);
            case 2:
                return one("null", "true", "false", "this", "i");
            case 6:
                return one("v", "w", "z", "K", "L");
            default:
                return one(NAMES);
        }
    }

    private String branch() {
        switch (random.nextInt(18)) {
            case 0:
                return goal() + "." + one(PROPERTIES);
            case 1:
                return goal() + "[" + (often(60) ? one(TEXTS) : e()) + "]";
            case 2:
                return goal() + "." + one(PROPERTIES) + "(" + es(3) + ")";
            case 3:
                return goal() + "(" + es(3) + ")";
            case 4:
                return "new " + goal() + "(" + es(3) + ")";
            case 5:
                String builtin = one(BUILTINS);
                boolean two = builtin.equals("turn") || builtin.equals("drop") || builtin.equals("has");
                return builtin + "(" + (builtin.equals("host") ? one(TEXTS) : goal()) + (two ? ", "
                        + (builtin.equals("turn") ? goal() : one(TEXTS)) : "") + ")";
            case 6:
            case 7:
                String text = e() + " " + one(OPERATORS) + " " + e();
                return often(60) ? "(" + text + ")" : text + " " + one(OPERATORS) + " " + leaf() + " " + one(OPERATORS) + " " + leaf();
            case 8:
                return one("-", "!") + leaf() + (often(30) ? "." + one(PROPERTIES) : "");
            case 9:
                return "[" + es(3) + "]";
            case 10:
                return "{ " + one(PROPERTIES) + ": " + e() + (often(50) ? ", " + one(PROPERTIES) + ": " + e() : "") + " }";
            case 11:
                return "fun (" + one("", "a", "a, b", "o, p, q") + ") { " + statements(2) + "}";
            case 12:
                return "(" + one(NAMES) + " = " + e() + ")";
            case 13:
                return "(" + goal() + "." + one(PROPERTIES) + " = " + e() + ")";
            default:
                return leaf();
        }
    }

    private String statements(int most) {
        StringBuilder text = new StringBuilder();
        int size = random.nextInt(most + 1);
        for (int i = 0; i < size; i++) {
            text.append(statement()).append(' ');
        }
        return text.toString();
    }

    private String block(int most) {
        depth++;
        String text = "{ " + (depth > 4 ? "" : statements(most)) + "}";
        depth--;
        return text;
    }

    private String simple() {
        return often(70) ? one("1", "null", "\"s\"", "true", "v", "w", "o", "2147483647 + j") : one("z", "K", "l", "j", "fun () { }", "7");
    }

    private String simples() {
        StringBuilder text = new StringBuilder();
        int es = random.nextInt(often(80) ? 3 : 9);
        for (int i = 0; i < es; i++) {
            text.append(i == 0 ? "" : ", ").append(simple());
        }
        return text.toString();
    }

    /** What goes to an instance, or to a host's class. */
    private String hosted() {
        String goal = one("v", "w", "z", "K", "L", "u[j % 5]", "u[j % 3]", "u[j % 2]");
        switch (random.nextInt(6)) {
            case 0:
            case 1:
                return "print(" + goal + "." + one("a", "b", "n", "x", "size", "_x", "A") + ");";
            case 2:
                return goal + "." + one("a", "b", "n", "x", "A") + " = " + simple() + ";";
            case 3:
            case 4:
                return "print(" + goal + "." + one("m", "n", "m", "getA", "setA", "setN", "pop", "getX") + "(" + simples() + "));";
            default:
                return "print(new " + one("K", "L", "u[3]") + "(" + simples() + "));";
        }
    }

    /** What goes through the sites of r, w, m, s and k, which meet many shapes; or changes these. */
    private String shaped() {
        String goal = one("o", "p", "q", "c[j % 4]", "c[j % 4]", "c[j * 7 % 11]", "proto(c[j % 5])", "f", "l");
        String other = one("o", "p", "q", "c[j % 3]", "null", "f", "make(p)");
        switch (random.nextInt(16)) {
            case 0:
            case 1:
            case 2:
                return "print(r(" + goal + "));";
            case 3:
            case 4:
                return "w_(" + goal + ", " + simple() + ");";
            case 5:
                return "print(k(" + goal + ", " + one("\"a\"", "\"n\"", "\"b\"", "\"k\" + j % 3") + "));";
            case 6:
                return "s(" + goal + ", " + one("\"a\"", "\"n\"", "\"b\"", "\"k\" + j % 3") + ", " + simple() + ");";
            case 7:
                return "print(m(" + goal + "));";
            case 8:
                return "turn(" + goal + ", " + other + ");";
            case 9:
                return "drop(" + goal + ", " + one("\"a\"", "\"n\"", "\"b\"", "\"k0\"", "\"m\"") + ");";
            case 10:
                return "c[j * " + one("3", "5", "7") + " % 11] = " + one("make(" + other + ")", "{ n: j }", "{ a: 1, b: 2 }", "new f(j)",
                        "fun () { return j; }") + ";";
            case 11:
                return goal + "." + one("a", "n", "b", "z") + " = " + simple() + ";";
            case 12:
                return goal + ".m = " + one("g", "r", "fun () { return this; }", "1", "null") + ";";
            case 13:
                return "f[\"proto\"] = " + other + "; print(proto(new f(1)) == f.proto_);";
            case 14:
                return "print(has(" + goal + ", " + one("\"a\"", "\"n\"", "\"k1\"", "\"zz\"") + "));";
            default:
                return "print(" + goal + "." + one("a", "n", "b") + ");";
        }
    }

    private String statement() {
        if (focus > 0 && depth < 3 && often(75)) {
            return focus == 1 ? hosted() : shaped();
        }
        if (isHosted && often(15)) {
            return hosted();
        }
        switch (random.nextInt(22)) {
            case 0:
                return "var " + one(NAMES) + (often(80) ? " = " + e() : "") + ";";
            case 1:
                return "fun " + one("f", "g", "h", "o") + "(" + one("", "a", "a, b", "p, q, t") + ") " + block(3);
            case 2:
                return "if (" + e() + ") " + block(2) + (often(50) ? " else " + block(2) : "");
            case 3:
                return "while (" + e() + ") { i = i + 1; if (i > 40) { i = 0; throw i; } " + statements(2) + "}";
            case 4:
                return often(40) ? "return " + e() + ";" : "return;";
            case 5:
                return often(50) ? "throw " + e() + ";" : "l.push(" + e() + ");";
            case 6:
            case 7:
            case 8:
                return "try " + block(3) + " catch (" + one("e", "a", "q") + ") " + block(2);
            case 9:
            case 10:
                return goal() + "." + one(PROPERTIES) + " = " + e() + ";";
            case 11:
                return goal() + "[" + (often(60) ? one(TEXTS) : e()) + "] = " + e() + ";";
            case 12:
                return one(NAMES) + " = " + e() + ";";
            case 13:
                return "print(" + e() + ");";
            case 14:
                return "turn(" + one("o", "p", "q", "f") + ", " + one("o", "p", "q", "null", "g") + ");";
            case 15:
                return one("o", "p", "q") + " = make(" + one("o", "p", "q", "null", "f") + ");";
            case 16:
                return "drop(" + one("o", "p", "q", "f") + ", " + one(TEXTS) + ");";
            case 17:
                return one("a", "b", "h", "p") + " = " + one("new (host(\"A\"))(" + es(2) + ")", "host(" + one(TEXTS) + ")",
                        "new (host(\"B\"))(" + es(2) + ")") + ";";
            default:
                String text = e();
                return text.startsWith("{") || text.startsWith("fun") ? "(" + text + ");" : text + ";";
        }
    }

    /** A unit that does things over and over, each in a TRY of its own, with what the same sites meet changing. */
    private String unit() {
        StringBuilder text = new StringBuilder();
        focus = random.nextInt(isHosted ? 3 : 2) * (isHosted ? 1 : 2);
        if (often(92)) {
            text.append("o = { a: 1 }; p = make(o); q = make(p); l = [o, p, q, 1, \"ab\"]; t = \"text\"; fun f(a, b) { ").append(statements(3)).append(" return this; } fun g(o) { try { o.n; o.n = 1; o.m(1); } catch (e) { } return o.x; }"
                    + " a = null; b = 2; h = g; i = 0; o.m = g; p.x = f; ");
            text.append("v = w = z = K = L = null; ");
            String[] makers = {"K = host(\"A\");", "L = host(\"B\");", "v = new (host(\"A\"))();", "w = new (host(\"B\"))();",
                    "w = new (host(\"C\"))();", "z = new (host(\"C\"))(1, \"s\");", "z = new (host(\"D\"))(null);",
                    "l.push(v); l.push(w); l.push(K);",
                "v = new K(v);", "a = v;"};
            for (String one : makers) {
                if (often(80)) {
                    text.append("try { ").append(one).append(" } catch (e) { } ");
                }
            }
            text.append("u = [v, w, z, K, L]; fun r(x) { return x.n; } fun w_(x, y) { x.n = y; } w = w || w_; fun m(x) { return x.m(1);"
                    + " } fun s(x, y, z) { return x[y] = z; } fun k(x, y) { return x[y]; }"
                    + " c = [{}, { n: 1 }, make(o), make(p), make(q), { a: 1 }, f, { n: 1, a: 2 }, make(f), make(make(q)), l]; ");
        }
        if (often(90)) {
            text.append("j = 0; while (j < ").append(5 + random.nextInt(30)).append(") { j = j + 1; ");
            int size = 2 + random.nextInt(12);
            for (int i = 0; i < size; i++) {
                text.append("try { ").append(statement()).append(" } catch (e) { ").append(often(20) ? "print(e); " : "").append("} ");
            }
            text.append(often(60) ? "o = l[j % l.size]; " : "").append(often(50) ? "q = l[j * 3 % l.size]; " : "").append("} ");
        }
        return text + statements(6);
    }

    private static final String[][] BLOCKS = {{"if (1) { ", "} "}, {"while (a) { ", "} "}, {"try { ", "} catch (e) { } "},
            {"try { } catch (e) { ", "} "}, {"fun f(a) { ", "} "}, {"if (1) { } else { ", "} "},
        {"if (1) { } else if (2) { ", "} else { } "}};
    private static final String[][] HOLDERS = {{"(", ")"}, {"[", "]"}, {"[1, ", ", 2]"}, {"{ a: ", "}"}, {"{ a: 1, b: ", ", c: 2 }"}, {"-",
            ""}, {"!", ""}, {"a = ", ""}, {"a.b = ", ""}, {"a[1] = ", ""}, {"a[", "]"},
        {"f(", ")"}, {"f(1, ", ", 2)"}, {"a.f(", ")"}, {"new f(", ")"}, {"new a[", "](1)"}, {"kind(", ")"}, {"turn(1, ", ")"}, {"1 + ",
                ""}, {"2 * (", ")"}, {"a && ", ""}, {"f(1, 2, 3, 4, 5, 6, 7, ", ")"}, {"f(1, 2, 3, 4, 5, 6, 7, 8, ", ")"}};

    /** A unit with about as many within one another as there may be. */
    private String deep() {
        StringBuilder open = new StringBuilder();
        String close = "";
        boolean inE = false;
        int size = 38 + random.nextInt(17);
        for (int i = 0; i < size; i++) {
            if (inE && often(10)) {
                open.append("fun (").append(one("", "a", "a, b")).append(") { ");
                close = "}" + close;
                inE = false;
            } else if (!inE && often(80)) {
                String[] block = BLOCKS[random.nextInt(BLOCKS.length)];
                open.append(often(20) ? "a; " : "").append(block[0]);
                close = block[1] + close;
            } else {
                String[] holder = HOLDERS[random.nextInt(often(97) ? HOLDERS.length - 2 : HOLDERS.length)];
                open.append(inE ? "" : one("return ", "x = ", "var x = ", "throw ", "f(1); (")).append(holder[0]);
                close = holder[1] + (inE ? "" : open.lastIndexOf("f(1); (") == open.length() - 7 - holder[0].length() ? "); " : "; ")
                        + close;
                inE = true;
            }
        }
        return open + (inE ? one("1", "a", "a.b", "(1)", "-1", "a = 1", "a = b = (1)", "[1]", "f(2)", "fun () { }", "{ }") : one("", "a;",
                "b = 1;", "return (1);", "return -a.b;", "var c = [];")) + close;
    }

    /** A text with some tokens changed. */
    private String spoiled(String text) {
        List<String> tokens = new ArrayList<>(List.of(text.split(" ")));
        int changes = 1 + random.nextInt(2);
        for (int i = 0; i < changes && !tokens.isEmpty(); i++) {
            int at = random.nextInt(tokens.size());
            switch (random.nextInt(4)) {
                case 0:
                    tokens.remove(at);
                    break;
                case 1:
                    tokens.add(at, one(ODD));
                    break;
                case 2:
                    tokens.set(at, one(ODD));
                    break;
                default:
                    tokens.subList(at, tokens.size()).clear();
                    break;
            }
        }
        return String.join(often(90) ? " " : "\n", tokens);
    }

    // What is asked of both.

    /** A call, and what the model has answered. */
    private static final class Asked {
        final Method method;
        final Object[] with;
        final String due;
        int rank;

        Asked(Method method, Object[] with, String due) {
            this.method = method;
            this.with = with;
            this.due = due;
        }

        /** Whether another one answers this, too. */
        boolean isDueOf(Face other) throws ReflectiveOperationException {
            String got;
            try {
                got = "" + method.invoke(other, with);
            } catch (InvocationTargetException e) {
                got = e.getCause().getClass().getSimpleName();
            }
            Bench.due(method.getName() + Arrays.toString(with), got, due);
            return got.equals(due);
        }
    }

    /** The model as one who notes what it is asked. */
    private Face noting(List<Asked> notes) {
        return (Face) Proxy.newProxyInstance(Face.class.getClassLoader(), new Class<?>[] {Face.class}, (proxy, method, with) -> {
            try {
                Object answer = method.invoke(model, with);
                notes.add(new Asked(method, with, "" + answer));
                return answer;
            } catch (InvocationTargetException e) {
                notes.add(new Asked(method, with, e.getCause().getClass().getSimpleName()));
                throw e.getCause();
            }
        });
    }

    /** Whether so many calls may come yet; some are left for what is asked at the end. */
    private boolean hasRoom(int calls) {
        return story.size() + calls <= Face.CALLS_MOST - 60;
    }

    /** Feeds a text without most of its blanks, if there is room for that and some calls more. */
    private boolean feed(String text, int more) {
        String less = text.replaceAll("(?<!\\w) | (?!\\w)", "");
        if (!hasRoom(less.length() / 16 + 1 + more)) {
            return false;
        }
        for (int i = 0; i < less.length(); i += 16) {
            long[] halves = new long[2];
            for (int j = 0; j < 16 && i + j < less.length(); j++) {
                halves[j / 8] |= (long) less.charAt(i + j) << 56 - 8 * (j % 8);
            }
            told.feed(halves[0], halves[1]);
        }
        return true;
    }

    /** A unit that leaves little of some memory, and what else it wants of the host. */
    private String hungry() {
        int less = often(50) ? random.nextInt(12) : random.nextInt(300);
        String loop = "i_ = 0; while (i_ < N) { DO i_ = i_ + 1; } ";
        String zeros = "[0" + ",0".repeat(99) + "];";
        String hundred = "s_ = \"01234567890123456789\"; s_ = s_ + s_ + s_ + s_ + s_; ";
        switch (random.nextInt(9)) {
            case 0:
                return loop.replace("N", "" + (7990 - less)).replace("DO", one("[];", "({});", "make(null);"));
            case 1:
                return loop.replace("N", "" + (599 - less / 100)).replace("DO", zeros) + loop.replace("N", ""
                        + (99 - less % 100)).replace("DO", "[1];");
            case 2:
                return loop.replace("N", "" + (11990 - less)).replace("DO", one("kind(1);", "\"\" + \"\";", "\"a\"[0];"));
            case 3:
                return hundred + loop.replace("N", "" + (1996 - less / 50)).replace("DO", "s_.sub(0, 100);");
            case 4:
                return "o_ = {}; " + loop.replace("N", "" + (3999 - less)).replace("DO", "o_ = make(o_);");
            case 5:
                return "o_ = {}; " + loop.replace("N", "" + (3990 - less)).replace("DO", "o_[\"~\" + i_];");
            case 6:
                return hundred + loop.replace("N", "" + (648 - less / 4)).replace("DO", "print(s_);");
            case 7:
                return "v_ = new (host(\"T\"))(); " + loop.replace("N", "" + (8333 - less / 6)).replace("DO",
                        "v_.m(); v_.m(); v_.m(); v_.m(); v_.m(); v_.m(); ");
            default:
                return "v_ = new (host(\"T\"))(); w_ = [1, 2147483647 + 1, \"\", true, null, {}, v_]; "
                        + loop.replace("N", "" + (1995 - less / 3)).replace("DO",
                        "v_.k(w_[i_ % 7], w_[i_ / 7 % 7], w_[i_ / 49 % 7], w_[i_ / 343 % 7]);");
        }
    }

    private void runHungry() {
        tell(often(80) ? soundHost() + "class T { new (); void m(); Any k(Any, Any, Any, Any); }"
                : "class T { new (); void m(); Any k(Any, Any, Any, Any); }");
        compile(hungry());
        told.start(0, 0);
        for (int i = 0; i < 300 && model.task(0, 0) == 1; i++) {
            told.steps(0, 1000);
        }
        if (often(30)) {
            tell(soundHost());
        }
    }

    private void life() throws ReflectiveOperationException {
        if (often(4)) {
            runHungry();
        } else if (often(90)) {
            tell(often(80) ? soundHost() : spoiled(host()));
        }
        for (int i = often(25) ? 4 : 0; i > 0; i--) {
            compile(often(70) ? deep() : spoiled(deep()));
        }
        int units = 1 + random.nextInt(4);
        for (int u = 0; u < units; u++) {
            String unit = unit();
            if (often(30)) {
                compile(spoiled(unit));
            }
            compile(unit);
            run();
            if (often(8)) {
                tell(often(60) ? soundHost() : spoiled(host()));
            }
        }
        List<Asked> questions = new ArrayList<>();
        all(noting(questions));
        askAlike(questions);
    }

    /** Asks objects that have lived this life, each one what there is room for; all questions, or as many as some objects can. */
    private void askAlike(List<Asked> questions) throws ReflectiveOperationException {
        Collections.shuffle(questions, random);
        // Each method's first one, then each one's second: those of which there are many don't crowd out the others.
        Map<Method, Integer> ranks = new HashMap<>();
        for (Asked one : questions) {
            one.rank = ranks.merge(one.method, 1, Integer::sum);
        }
        questions.sort(Comparator.comparingInt(one -> one.rank));
        int next = 0;
        for (int i = 0; next < questions.size() && (asksAll || i < 5); i++) {
            Face.Real real = new Face.Real();
            for (Asked one : story) {
                if (!one.isDueOf(real)) {
                    return;
                }
            }
            while (next < questions.size() && real.left() > 0) {
                if (!questions.get(next).isDueOf(real)) {
                    return;
                }
                next++;
            }
        }
    }

    private void tell(String host) {
        if (feed(host, 1)) {
            isHosted = true;
            told.host();
        }
    }

    /** A host's text, most often one without fault. */
    private String soundHost() {
        String text = host();
        for (int i = 0; i < 6 && often(90); i++) {
            Bench other = new Bench(new Model());
            if (other.host(text) == 0) {
                break;
            }
            text = host();
        }
        return text;
    }

    private void compile(String unit) {
        if (feed(unit, 1)) {
            told.compile();
        }
    }

    private void run() {
        for (int i = 0; i < 10 && hasRoom(3); i++) {
            int t = random.nextInt(2);
            int u = model.count(3) - 1 - (often(80) ? 0 : random.nextInt(3));
            int n = often(70) ? 1000 : 1 + random.nextInt(60);
            told.start(t, u);
            Bench.answer(() -> told.steps(t, n));
            told.task(t, random.nextInt(5));
        }
        if (feed(one(NAMES), 1)) {
            Bench.answer(() -> told.global(1));
        }
    }

    private static void tell(StringBuilder text, String head, int... told) {
        text.append('\n').append(head);
        for (int one : told) {
            text.append(' ').append(one);
        }
    }

    private static String all(Face x) {
        StringBuilder text = new StringBuilder();
        for (int what = 0; what < 26; what++) {
            tell(text, "count", what, x.count(what));
        }
        for (int k = 0; k <= x.count(1); k++) {
            tell(text, "type", x.type(k, 0), x.type(k, 1), x.type(k, 2), x.type(k, 3), x.type(k, 4), x.type(k, 5));
        }
        for (int k = 0; k <= x.count(2); k++) {
            tell(text, "member", x.member(k, 0), x.member(k, 1), x.member(k, 2), x.member(k, 3), x.member(k, 4), x.member(k, 5),
                    x.member(k, 6), x.member(k, 7), x.member(k, 8));
        }
        for (int type = 0; type < 10 + x.count(1); type++) {
            for (int of = 0; of < 10 + x.count(1); of++) {
                text.append(x.subtype(type, of) ? '1' : '0');
            }
        }
        for (int f = 0; f <= x.count(4); f++) {
            tell(text, "function", x.function(f, 0), x.function(f, 1), x.function(f, 2), x.function(f, 3), x.function(f, 4), x.function(f,
                    5));
            for (int i = 0; i <= x.function(f, 3); i++) {
                tell(text, "code", x.code(f, i, 0), x.code(f, i, 1), x.code(f, i, 2));
            }
        }
        for (int s = 0; s <= x.count(6); s++) {
            tell(text, "site", s);
            for (int what = 0; what <= 10; what++) {
                text.append(' ').append(x.site(s, what));
            }
            for (int k = 0; k <= x.site(s, 9); k++) {
                tell(text, "entry", x.entry(s, k, 0), x.entry(s, k, 1), x.entry(s, k, 2), x.entry(s, k, 3), x.entry(s, k, 4), x.entry(s, k,
                        5));
            }
        }
        tellRun(text, x);
        return text.toString();
    }

    private static void tellRun(StringBuilder text, Face x) {
        for (int n = 0; n <= x.count(8); n++) {
            tell(text, "name", n);
            for (int i = 0; i == 0 || x.name(n, i - 1) >= 0; i++) {
                text.append(' ').append(x.name(n, i));
            }
        }
        for (int t = 0; t < 2; t++) {
            int task = t;
            text.append('\n').append(Bench.answer(() -> x.result(task, 0))).append(' ').append(Bench.answer(() -> x.result(task,
                    1))).append(' ').append(x.sign(t, 0)).append(' ').append(x.sign(t, 1));
        }
        for (int k = 0; k <= x.count(10); k++) {
            tell(text, "thing", k, x.thing(k, 0), x.thing(k, 1), x.thing(k, 2), x.thing(k, 3), x.thing(k, 4), x.thing(k, 5));
            int thing = k;
            for (int i = 0; i < 70; i++) {
                int at = i;
                String value = Bench.answer(() -> x.property(thing, at, 0)) + " " + Bench.answer(() -> x.property(thing, at, 1)) + " "
                        + Bench.answer(() -> x.property(thing, at, 2));
                text.append(", ").append(value);
                if (value.startsWith("I")) {
                    break;
                }
            }
        }
        for (int k = 0; k <= x.count(12); k++) {
            tell(text, "shape", k, x.shape(k, 0), x.shape(k, 1));
            for (int what = 2; what < 3 + x.shape(k, 1); what++) {
                text.append(' ').append(x.shape(k, what));
            }
        }
        text.append('\n');
        for (int i = 0; i <= Math.min(3000, x.count(15)); i++) {
            text.append((char) x.output(i));
        }
        for (int i = 0; i <= Math.min(2000, x.count(16)); i++) {
            text.append(' ').append(x.trace(i));
        }
    }
}
