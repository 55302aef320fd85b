import java.util.ArrayList;
import java.util.List;

/** Promises 8 to 12 and term 4, sentence by sentence: first and last numbers, none, and wrong arguments. */
public final class CodeEdgesTest {
    private static final int[] FAR = {Integer.MIN_VALUE, -2, -1, Integer.MAX_VALUE};

    public static void main(String[] args) {
        function();
        functionsWithoutSites();
        code();
        whereNoneIsTold();
        operators();
        jumpsToTheEnd();
        site();
        descriptors();
        entryOfNone();
        name();
        namesAsTheyComeFirst();
        behindARefusedUnit();
        textsAsTheyComeFirst();
        variables();
        Bench.end();
    }

    private static Bench compiled(String... units) {
        Bench bench = new Bench();
        for (int u = 0; u < units.length; u++) {
            Bench.due("compile of " + units[u], bench.compile(units[u]), u);
        }
        return bench;
    }

    private static void function() {
        Bench.about("promise 8: NONE for another f or what");
        Bench bench = compiled("fun f(a) { var b; b.c; }", "");
        Bench.due("all", bench.function(0) + ", " + bench.function(1) + ", " + bench.function(2), "0 0 0 5 0 0, 0 1 2 5 0 1, 1 0 0 2 1 0");
        for (int what = -2; what <= 12; what++) {
            Bench.due("function(3, " + what + ")", bench.tongue.function(3, what), -1);
            if (what < 0 || what > 5) {
                Bench.due("function(1, " + what + ")", bench.tongue.function(1, what), -1);
            }
        }
        for (int far : FAR) {
            Bench.due("function(" + far + ", 0)", bench.tongue.function(far, 0), -1);
            Bench.due("function(0, " + far + ")", bench.tongue.function(0, far), -1);
        }
        Bench.due("of no unit", new Face.Real().function(0, 0), -1);
        bench.host("");
        Bench.due("of a host that went", bench.tongue.function(0, 0), -1);
    }

    private static void functionsWithoutSites() {
        Bench.about("promise 8: the first of its sites (what would be the next one's number, if there is none), sites");
        Bench bench = compiled("fun a() { } a.x; fun b() { b.x; b.y; } fun c() { } fun d() { fun e() { d.x; } }", "", "q.x;", "");
        String[] want = {"0 1", "1 0", "1 2", "3 0", "3 0", "3 1", "4 0", "4 1", "5 0"};
        for (int f = 0; f < want.length; f++) {
            Bench.due("of function " + f, bench.tongue.function(f, 4) + " " + bench.tongue.function(f, 5), want[f]);
        }
    }

    private static void code() {
        Bench.about("promise 9: NONE if there is none such, or no such what");
        Bench bench = compiled("1;", "fun f() { a; }");
        Bench.due("the first and the last", bench.tongue.code(0, 0, 0) + " " + bench.tongue.code(0, 3, 0) + " " + bench.tongue.code(2, 3,
                0), "0 29 29");
        for (int f = 0; f < 3; f++) {
            int size = bench.tongue.function(f, 3);
            for (int what = -2; what <= 5; what++) {
                Bench.due("code(" + f + ", size, " + what + ")", bench.tongue.code(f, size, what), -1);
                Bench.due("code(" + f + ", -1, " + what + ")", bench.tongue.code(f, -1, what), -1);
                Bench.due("code(3, 0, " + what + ")", bench.tongue.code(3, 0, what), -1);
            }
            Bench.due("code(f, 0, 3)", bench.tongue.code(f, 0, 3), -1);
            Bench.due("code(f, 0, -1)", bench.tongue.code(f, 0, -1), -1);
            for (int far : FAR) {
                Bench.due("code(far, 0, 0)", bench.tongue.code(far, 0, 0), -1);
                Bench.due("code(f, far, 0)", bench.tongue.code(f, far, 0), -1);
                Bench.due("code(f, 0, far)", bench.tongue.code(f, 0, far), -1);
            }
        }
        Bench.due("of no unit", new Face.Real().code(0, 0, 0), -1);
    }

    private static void whereNoneIsTold() {
        Bench.about("promise 9: A, B (0 where none is told)");
        Bench bench = compiled("null; false; true; 0; 2147483647; \"a\"; this; ({}); []; -1; !1;");
        Bench.due("constants", bench.code(0), "0 0 0; 5 0 0; 0 1 0; 5 0 0; 0 2 0; 5 0 0; 0 3 0; 5 0 0; 0 3 2147483647; 5 0 0; 0 4 0; 5"
                + " 0 0; 33 0 0; 5 0 0;"
                + " 26 0 0; 5 0 0; 25 0 0; 5 0 0; 0 3 1; 12 0 0; 5 0 0; 0 3 1; 13 0 0; 5 0 0; 0 0 0; 29 0 0");
        bench = compiled("z; a.b; a.b = 1; a[1]; a[1] = 2; a(); a.b(1); new a();", "a.b;");
        Bench.due("sites have a B of 0", bench.code(0), "3 0 0; 5 0 0; 3 1 0; 27 0 0; 5 0 0; 3 1 0; 0 3 1; 27 1 0; 5 0 0; 3 1 0; 0 3 1;"
                + " 27 2 0; 5 0 0;"
                + " 3 1 0; 0 3 1; 0 3 2; 27 3 0; 5 0 0; 3 1 0; 27 4 0; 5 0 0; 3 1 0; 0 3 1; 27 5 0; 5 0 0; 3 1 0; 27 6 0; 5 0 0; 0 0 0;"
                + " 29 0 0");
        Bench.due("of the next unit", bench.code(1), "3 1 0; 27 7 0; 5 0 0; 0 0 0; 29 0 0");
        bench = compiled("fun f(a) { a; a = 1; var b = a; return fun () { return a + b; }; } throw f; ");
        Bench.due("f", bench.code(1), "1 0 0; 5 0 0; 0 3 1; 2 0 0; 5 0 0; 1 0 0; 2 0 1; 5 0 0; 24 2 0; 29 0 0; 0 0 0; 29 0 0");
        Bench.due("the one in it", bench.code(2), "1 1 0; 1 1 1; 7 0 0; 29 0 0; 0 0 0; 29 0 0");
        Bench.due("the unit's own", bench.code(0), "24 1 0; 4 0 0; 5 0 0; 3 0 0; 30 0 0; 0 0 0; 29 0 0");
        StringBuilder list = new StringBuilder("[0");
        for (int i = 1; i < 300; i++) {
            list.append(",0");
        }
        bench = compiled(list + "];");
        Bench.due("a list of many", bench.tongue.code(0, 300, 0) + " " + bench.tongue.code(0, 300, 1), "25 300");
    }

    // Each line binds closer than the one ahead of it.
    private static final String[][] LEVELS = {{"||"}, {"&&"}, {"==", "!="}, {"<", "<=", ">", ">="}, {"+", "-"}, {"*", "/", "%"}};

    private static void operators() {
        Bench.about("term 3: or = and || and .. up to product = front * / % front .., all from the left");
        List<String> all = new ArrayList<>();
        for (String[] level : LEVELS) {
            all.addAll(List.of(level));
        }
        for (String one : all) {
            for (String two : all) {
                for (String three : all) {
                    List<String> parts = List.of("a", one, "b", two, "c", three, "d");
                    sameCode(String.join(" ", parts), grouped(parts));
                }
                sameCode("-a " + one + " !b " + two + " -c.d", grouped(List.of("(-a)", one, "(!b)", two, "(-(c.d))")));
            }
            sameCode("x = a " + one + " b", "x = (a " + one + " b)");
            sameCode("!a " + one + " -b", "(!a) " + one + " (-b)");
        }
    }

    /** The same with ( ) round all that is to be done first. */
    private static String grouped(List<String> parts) {
        if (parts.size() == 1) {
            return parts.get(0);
        }
        for (String[] level : LEVELS) {
            for (int i = parts.size() - 2; i > 0; i -= 2) {
                if (List.of(level).contains(parts.get(i))) {
                    return "(" + grouped(parts.subList(0, i)) + " " + parts.get(i) + " " + grouped(parts.subList(i + 1, parts.size())) + ")";
                }
            }
        }
        return "";
    }

    private static void sameCode(String one, String other) {
        Bench bench = new Bench();
        bench.compile(one + ";");
        bench.compile(other + ";");
        Bench.due("code of " + one, bench.code(0).replaceAll("27 \\d+", "27"), bench.code(1).replaceAll("27 \\d+", "27"));
        Bench.due("units of " + one, bench.tongue.count(3), 2);
    }

    private static void jumpsToTheEnd() {
        Bench.about("term 4: behind a function's last one null, RETURN, to where jumps may go");
        Bench bench = compiled("if (a) { }", "while (a) { }", "try { } catch (a) { }", "if (a) { } else { }",
                "fun f() { while (1) { if (2) { } else { } } }");
        Bench.due("if", bench.code(0), "3 0 0; 21 2 0; 0 0 0; 29 0 0");
        Bench.due("while", bench.code(1), "3 0 0; 21 3 0; 20 0 0; 0 0 0; 29 0 0");
        Bench.due("try", bench.code(2), "31 3 0; 32 0 0; 20 5 0; 4 0 0; 5 0 0; 0 0 0; 29 0 0");
        Bench.due("else", bench.code(3), "3 0 0; 21 3 0; 20 3 0; 0 0 0; 29 0 0");
        Bench.due("in a function", bench.code(5), "0 3 1; 21 6 0; 0 3 2; 21 5 0; 20 5 0; 20 0 0; 0 0 0; 29 0 0");
        bench = compiled("a || b;", "return a && b && c;");
        Bench.due("or", bench.code(0), "3 0 0; 22 3 0; 3 1 0; 5 0 0; 0 0 0; 29 0 0");
        Bench.due("and", bench.code(1), "3 0 0; 23 3 0; 3 1 0; 23 5 0; 3 2 0; 29 0 0; 0 0 0; 29 0 0");
    }

    private static void site() {
        Bench.about("promise 10: NONE for another s or what; a name (NONE), how many ES (0 for 0 to 3)");
        Bench bench = compiled("a.n; a.n = 1; a[1]; a[1] = 1; a(); a(1, 2, 3, 4, 5, 6, 7, 8); a.n(); a.n(1, 2); new a(); new a(1);");
        String[] want = {"0 1 0", "1 1 0", "2 -1 0", "3 -1 0", "4 -1 0", "4 -1 8", "5 1 0", "5 1 2", "6 -1 0", "6 -1 1"};
        for (int s = 0; s < want.length; s++) {
            Bench.due("site " + s, bench.site(s, 0, 2), want[s]);
            Bench.due("not invoked " + s, bench.site(s, 6, 10), "0 0 0 0 0");
        }
        Bench objects = compiled("x = { n: 1, m: { n: 2 } };");
        Bench.due("writes of an object", objects.site(0, 0, 5) + ", " + objects.site(1, 0, 5) + ", " + objects.site(2, 0, 5),
                "1 1 0 0 3 0, 1 1 0 0 9 0, 1 2 0 0 11 1");
        for (int what = -2; what <= 14; what++) {
            Bench.due("site(10, " + what + ")", bench.tongue.site(10, what), -1);
            if (what < 0 || what > 10) {
                Bench.due("site(0, " + what + ")", bench.tongue.site(0, what), -1);
            }
        }
        for (int far : FAR) {
            Bench.due("site(" + far + ", 0)", bench.tongue.site(far, 0), -1);
            Bench.due("site(0, " + far + ")", bench.tongue.site(0, far), -1);
        }
        Bench.due("of no unit", new Face.Real().site(0, 0), -1);
    }

    private static void descriptors() {
        Bench.about("term 4: sites that are alike share a DESCRIPTOR; these have numbers as they come first");
        Bench bench = compiled("fun f() { a.n; a(1); } a.n; a.n = 1; a(); a(1); a.m; a.n(); a.n(1); new a(); new a(1); a[1]; a[1] = 1; a.n;",
                "b.n; b.zz; b.n();");
        int[] want = {0, 1, 2, 3, 4, 5, 6, 7, 8, 9, 10, 0, 0, 3, 0, 11, 5};
        for (int s = 0; s < want.length; s++) {
            Bench.due("of site " + s, bench.tongue.site(s, 5), want[s]);
        }
        Bench.due("count(7)", bench.tongue.count(7), 12);
        // Names of two signs: 600 of them, read or called with so many, and again in another order.
        int most = 600;
        StringBuilder text = new StringBuilder("a");
        StringBuilder again = new StringBuilder("a");
        for (int i = 0; i < most; i++) {
            text.append(aRead(i));
            again.append(aRead((most - 1 - i) * 7 % most));
        }
        bench = Bench.alike(() -> compiled(text + ";", again + ";"));
        Bench.due("many", bench.tongue.count(7) + " " + bench.tongue.count(6), most + " " + 2 * most);
        for (int i = 0; i < most; i++) {
            Bench.due("both reads of " + i, bench.tongue.site(i, 5) + " " + bench.tongue.site(most + i, 5),
                    i + " " + (most - 1 - i) * 7 % most);
        }
        String reads = "a.b; a.c; a.b;";
        bench = compiled(reads);
        bench.host("");
        bench.compile("a.n; a.m; a.n;");
        Bench.due("anew with a host", bench.tongue.count(7) + " " + bench.tongue.site(2, 5), "2 0");
    }

    private static String aRead(int i) {
        String read = "." + (char) ('a' + i % 26) + (char) ('A' + i / 26);
        return i % 5 == 0 ? read + "(" + "1".repeat(i % 2) + ")" : read;
    }

    private static void entryOfNone() {
        Bench.about("promise 11: NONE for another s, k or what");
        Bench bench = new Bench();
        bench.run(0, "o = { a: 1 }; o.a; p.b;");
        Bench.due("the only one", bench.entry(1, 0), "0 1 -1 0 -1 0");
        for (int what = -2; what <= 9; what++) {
            Bench.due("entry(1, 1, " + what + ")", bench.tongue.entry(1, 1, what), -1);
            Bench.due("entry(2, 0, " + what + ")", bench.tongue.entry(2, 0, what), -1);
            Bench.due("entry(3, 0, " + what + ")", bench.tongue.entry(3, 0, what), -1);
            if (what < 0 || what > 5) {
                Bench.due("entry(1, 0, " + what + ")", bench.tongue.entry(1, 0, what), -1);
            }
        }
        for (int far : FAR) {
            Bench.due("entry(far, 0, 0)", bench.tongue.entry(far, 0, 0), -1);
            Bench.due("entry(1, far, 0)", bench.tongue.entry(1, far, 0), -1);
            Bench.due("entry(1, 0, far)", bench.tongue.entry(1, 0, far), -1);
        }
    }

    private static void name() {
        Bench.about("promise 12: NONE if there is none");
        String thirty = "Zz0_9aA_b_c_d_e_f_g_h_i_j_k_l_";
        Bench bench = compiled("a;" + thirty + ";");
        Bench.due("names", bench.name(0) + " " + bench.name(1), "a " + thirty);
        Bench.due("the last sign", bench.tongue.name(1, 29) + " " + bench.tongue.name(1, 30), "95 -1");
        Bench.due("behind the first", bench.tongue.name(0, 1) + " " + bench.tongue.name(0, 30), "-1 -1");
        Bench.due("behind the last", bench.tongue.name(2, 0) + " " + bench.tongue.name(4000, 0), "-1 -1");
        for (int far : FAR) {
            Bench.due("name(far, 0)", bench.tongue.name(far, 0), -1);
            Bench.due("name(0, far)", bench.tongue.name(0, far), -1);
        }
        bench.host("class qq { int rr; }");
        Bench.due("a host's names have none", bench.tongue.count(8) + " " + bench.tongue.name(0, 0), "0 -1");
        bench.run(0, "x = {}; x[\"~ \\n\\\"\"] = 1;");
        Bench.due("an element's text is one", bench.name(1) + " " + bench.tongue.count(8), "~ \n\" 2");
        bench.compile("y; x;");
        Bench.due("the next one", bench.name(2) + " " + bench.tongue.count(8), "y 3");
        Bench.due("a global that is no NAME's sign", bench.global("~ "), "none");
    }

    private static void namesAsTheyComeFirst() {
        Bench.about("term 4: NAMES have numbers as they come first through all units");
        Bench bench = compiled("fun b(c, a) { var d; c.e.b(f); try { } catch (g) { } } ({ h: 1 });", "a; z; b; new y(x).w;");
        String all = "";
        for (int n = 0; n < bench.tongue.count(8); n++) {
            all += bench.name(n);
        }
        Bench.due("all", all, "bcadefghzyxw");
        Bench.due("one that comes where none can", bench.fault("v 1"), 1 + 16 * 2);
        Bench.due("a keyword is none", bench.compile("print(this);"), 2);
        Bench.due("nothing more", bench.tongue.count(8), 12);
        bench.compile("u;");
        Bench.due("the next", bench.name(12), "u");
        // A text as an element is a NAME when the site is invoked, not ahead of it.
        bench = compiled("\"t\"; o = {}; o[\"t\"]; q;", "r; t;");
        Bench.due("not yet", bench.name(1) + bench.name(3), "qt");
        bench = compiled("o = {}; o[\"t\"]; q;");
        bench.runUnit(0, 0);
        bench.compile("t; r;");
        Bench.due("by an element", bench.name(2) + bench.name(3) + bench.tongue.count(8), "tr4");
    }

    private static void behindARefusedUnit() {
        Bench.about("term 3: units that are refused take no room: neither names that are known as other words");
        Bench bench = new Bench();
        bench.compile("\"abc\"; x.first;");
        for (String word : new String[] {"abc", "size", "push", "pop", "sub", "bool", "int", "long", "text", "object", "list", "class"}) {
            Bench.due("refused", bench.fault("y; z; " + word + "; \"zz\"; \"first\"; \"" + word + "\"; #") >= 0, true);
        }
        Bench.due("nothing is left", bench.tongue.count(8) + " " + bench.tongue.count(9), "2 1");
        bench.compile("\"size\"; q; \"q\"; abc; size; push; list; class; \"first\"; \"abc\"; first;");
        Bench.due("numbers of names and texts", bench.code(1),
                "0 4 1; 5 0 0; 3 2 0; 5 0 0; 0 4 2; 5 0 0; 3 3 0; 5 0 0; 3 4 0; 5 0 0; 3 5 0; 5 0 0; 3 6 0; 5 0 0; 3 7 0; 5 0 0; 0 4 3;"
                + " 5 0 0; 0 4 0; 5 0 0; 3 1 0; 5 0 0; 0 0 0; 29 0 0");
        Bench.due("their signs", bench.name(3) + " " + bench.name(4) + " " + bench.name(7) + " " + bench.name(8), "abc size class ");
        bench.fault("fun a(b) { c.d; c.e; } fun f() { g.h = 1; } #");
        Bench.due("no function, instruction or site of it", bench.tongue.function(2, 3) + " " + bench.tongue.code(2, 0, 0) + " "
                + bench.tongue.code(3, 0, 0) + " " + bench.tongue.site(1, 0) + " " + bench.tongue.entry(1, 0, 0), "-1 -1 -1 -1 -1");
        for (int i = 0; i < 45; i++) {
            bench.fault("1+(2*(3<(4==(5&&(6||(7-(8/(9%(-(!(a=(1+[2*{a:3-(#");
        }
        Bench.due("a deep one behind many", bench.compile(Bench.times("1 + (2 * -", 25) + "3" + Bench.times(")", 25) + ";"), 2);
        Bench.due("a deep one behind many", bench.compile(Bench.times("1 + 2 * (3 < 4 && (5 == ", 25) + "3" + Bench.times("))", 25) + ";"),
                3);
    }

    private static void textsAsTheyComeFirst() {
        Bench.about("term 4: TEXTS have numbers as they come first, texts that are the same have one");
        Bench bench = compiled("\"b\"; \"a\"; \"b\"; \"\"; \"\\n\";", "\"a\"; b; a; \"c\"; \"\";");
        Bench.due("first", bench.code(0), "0 4 0; 5 0 0; 0 4 1; 5 0 0; 0 4 0; 5 0 0; 0 4 2; 5 0 0; 0 4 3; 5 0 0; 0 0 0; 29 0 0");
        Bench.due("second", bench.code(1), "0 4 1; 5 0 0; 3 0 0; 5 0 0; 3 1 0; 5 0 0; 0 4 4; 5 0 0; 0 4 2; 5 0 0; 0 0 0; 29 0 0");
        Bench.due("count(9)", bench.tongue.count(9) + " " + bench.tongue.count(8), "5 2");
        bench.runUnit(0, 0);
        bench = compiled("x = \"d\" + \"e\";");
        bench.runUnit(0, 0);
        bench.compile("\"de\";");
        Bench.due("one that was made has none", bench.tongue.count(9), 3);
        bench.host("");
        bench.compile("\"de\"; \"d\";");
        Bench.due("anew with a host", bench.code(0) + " " + bench.tongue.count(9), "0 4 0; 5 0 0; 0 4 1; 5 0 0; 0 0 0; 29 0 0 2");
    }

    private static void variables() {
        Bench.about("term 3: VARIABLES are the parameters, then the names of var, fun and catch, as they come first");
        Bench bench = compiled("fun f(a, b) { var b; var c; fun d(x) { var y; var c; } try { } catch (e) { var c; } if (1) { var g; }"
                + " while (1) { fun h() { } } }"
                + " var v; try { } catch (w) { }", "v = w; fun q() { v = w; }");
        String[] want = {"0 0", "2 7", "1 3", "0 0", "0 0", "0 0"};
        for (int f = 0; f < want.length; f++) {
            Bench.due("of function " + f, bench.tongue.function(f, 1) + " " + bench.tongue.function(f, 2), want[f]);
        }
        Bench.due("a unit's own are GLOBALS", bench.code(4).substring(0, 14) + ", " + bench.code(5).substring(0, 14),
                "3 11 0; 4 10 0, 3 11 0; 4 10 0");
        Bench.due("their names", bench.name(10) + bench.name(11), "vw");
    }
}
