/** Promises 7 to 10 and 12: units, their functions, instructions, sites and names; terms 3 and 4. */
public final class CompileTest {
    public static void main(String[] args) {
        statements();
        expressions();
        writes();
        functions();
        sites();
        numbers();
        faultsOfTokens();
        faultsOfTargets();
        faultsOfDepth();
        faultsOfNumbers();
        faultsOfRoom();
        wrongArguments();
        Bench.end();
    }

    /** The code of a unit's own function but for the null and RETURN behind it. */
    private static void code(String text, String want) {
        Bench bench = new Bench();
        Bench.due("compile of " + text, bench.compile(text), 0);
        String code = want.isEmpty() ? "0 0 0; 29 0 0" : want + "; 0 0 0; 29 0 0";
        Bench.due("code of " + text, bench.code(0), code);
        Bench.due("instructions of " + text, bench.tongue.function(0, 3), code.split(";").length);
    }

    private static void statements() {
        Bench.about("promise 9, statements");
        code("", "");
        code("1;", "0 3 1; 5 0 0");
        code("var a;", "");
        code("var a = 2;", "0 3 2; 4 0 0; 5 0 0");
        code("fun f() { }", "24 1 0; 4 0 0; 5 0 0");
        code("if (a) { b; }", "3 0 0; 21 4 0; 3 1 0; 5 0 0");
        code("if (a) { b; } else { c; }", "3 0 0; 21 5 0; 3 1 0; 5 0 0; 20 7 0; 3 2 0; 5 0 0");
        code("if (a) { } else if (b) { } else { c; }",
                "3 0 0; 21 3 0; 20 8 0; 3 1 0; 21 6 0; 20 8 0; 3 2 0; 5 0 0");
        code("if (a) { } else if (b) { c; }", "3 0 0; 21 3 0; 20 7 0; 3 1 0; 21 7 0; 3 2 0; 5 0 0");
        code("while (a) { b; }", "3 0 0; 21 5 0; 3 1 0; 5 0 0; 20 0 0");
        code("return;", "0 0 0; 29 0 0");
        code("return 3;", "0 3 3; 29 0 0");
        code("throw a;", "3 0 0; 30 0 0");
        code("try { a; } catch (b) { c; }",
                "31 5 0; 3 0 0; 5 0 0; 32 0 0; 20 9 0; 4 1 0; 5 0 0; 3 2 0; 5 0 0");
    }

    private static void expressions() {
        Bench.about("promise 9, expressions");
        code("null; false; true; this; \"\";",
                "0 0 0; 5 0 0; 0 1 0; 5 0 0; 0 2 0; 5 0 0; 33 0 0; 5 0 0; 0 4 0; 5 0 0");
        code("1 + 2 * 3 - 4;", "0 3 1; 0 3 2; 0 3 3; 9 0 0; 7 0 0; 0 3 4; 8 0 0; 5 0 0");
        code("1 / 2 % 3;", "0 3 1; 0 3 2; 10 0 0; 0 3 3; 11 0 0; 5 0 0");
        code("1 == 2 != 3;", "0 3 1; 0 3 2; 14 0 0; 0 3 3; 15 0 0; 5 0 0");
        code("1 < 2 == 3 <= 4;", "0 3 1; 0 3 2; 16 0 0; 0 3 3; 0 3 4; 17 0 0; 14 0 0; 5 0 0");
        code("1 > 2 >= 3;", "0 3 1; 0 3 2; 18 0 0; 0 3 3; 19 0 0; 5 0 0");
        code("-1; !-!2;", "0 3 1; 12 0 0; 5 0 0; 0 3 2; 13 0 0; 12 0 0; 13 0 0; 5 0 0");
        code("1 - -2;", "0 3 1; 0 3 2; 12 0 0; 8 0 0; 5 0 0");
        code("-1 * 2;", "0 3 1; 12 0 0; 0 3 2; 9 0 0; 5 0 0");
        code("1 || 2 || 3;", "0 3 1; 22 3 0; 0 3 2; 22 5 0; 0 3 3; 5 0 0");
        code("1 && 2 || 3 && 4;", "0 3 1; 23 3 0; 0 3 2; 22 7 0; 0 3 3; 23 7 0; 0 3 4; 5 0 0");
        code("1 || 2 == 3;", "0 3 1; 22 5 0; 0 3 2; 0 3 3; 14 0 0; 5 0 0");
        code("(1 + 2) * 3;", "0 3 1; 0 3 2; 7 0 0; 0 3 3; 9 0 0; 5 0 0");
        code("[]; [1, 2];", "25 0 0; 5 0 0; 0 3 1; 0 3 2; 25 2 0; 5 0 0");
        code("[1, 2, 3, 4, 5, 6, 7, 8, 9];",
                "0 3 1; 0 3 2; 0 3 3; 0 3 4; 0 3 5; 0 3 6; 0 3 7; 0 3 8; 0 3 9; 25 9 0; 5 0 0");
        code("({});", "26 0 0; 5 0 0");
        code("({ a: 1, b: 2 });",
                "26 0 0; 6 0 0; 0 3 1; 27 0 0; 5 0 0; 6 0 0; 0 3 2; 27 1 0; 5 0 0; 5 0 0");
        code("a.b; a[1]; a(1); a.b(1, 2);", "3 0 0; 27 0 0; 5 0 0; 3 0 0; 0 3 1; 27 1 0; 5 0 0;"
                + " 3 0 0; 0 3 1; 27 2 0; 5 0 0; 3 0 0; 0 3 1; 0 3 2; 27 3 0; 5 0 0");
        code("new a(1).b;", "3 0 0; 0 3 1; 27 0 0; 27 1 0; 5 0 0");
        code("new a.b[1](2)(3);", "3 0 0; 27 0 0; 0 3 1; 27 1 0; 0 3 2; 27 2 0; 0 3 3; 27 3 0; 5 0 0");
        code("print(1); make(1); proto(1); turn(1, 2); drop(1, 2); has(1, 2); kind(1); host(1);",
                "0 3 1; 28 0 0; 5 0 0; 0 3 1; 28 1 0; 5 0 0; 0 3 1; 28 2 0; 5 0 0; 0 3 1; 0 3 2; 28 3 0; 5 0 0;"
                + " 0 3 1; 0 3 2; 28 4 0; 5 0 0; 0 3 1; 0 3 2; 28 5 0; 5 0 0; 0 3 1; 28 6 0; 5 0 0;"
                + " 0 3 1; 28 7 0; 5 0 0");
    }

    private static void writes() {
        Bench.about("promise 9, writes");
        code("a = 1;", "0 3 1; 4 0 0; 5 0 0");
        code("a = b = 1;", "0 3 1; 4 1 0; 4 0 0; 5 0 0");
        code("a.b = 1;", "3 0 0; 0 3 1; 27 0 0; 5 0 0");
        code("a.b.c = d.e;", "3 0 0; 27 0 0; 3 3 0; 27 1 0; 27 2 0; 5 0 0");
        code("a[b] = 1;", "3 0 0; 3 1 0; 0 3 1; 27 0 0; 5 0 0");
        code("a()[1] = b[2] = 3;", "3 0 0; 27 0 0; 0 3 1; 3 1 0; 0 3 2; 0 3 3; 27 1 0; 27 2 0; 5 0 0");
        code("f(a = 1);", "3 0 0; 0 3 1; 4 1 0; 27 0 0; 5 0 0");
        Bench bench = new Bench();
        bench.compile("a.b = c.d; a[1] = 2;");
        Bench.due("sites of writes", bench.site(0, 0, 5) + ", " + bench.site(1, 0, 5) + ", " + bench.site(2, 0, 5),
                "0 3 0 0 2 0, 1 1 0 0 3 1, 3 -1 0 0 8 2");
        Bench.due("no fourth site", bench.tongue.count(6), 3);
    }

    private static void functions() {
        Bench.about("promises 8 and 9, functions");
        Bench bench = new Bench();
        bench.compile("g;");
        Bench.due("compile()", bench.compile("fun f(a, b) { x = a; a = y; var y; fun h(c) { y = a; return c.d + z; }"
                + " try { } catch (b) { } try { } catch (q) { } var z; return fun () { h = q; }; } f.e;"), 1);
        Face tongue = bench.tongue;
        Bench.due("count(4)", tongue.count(4), 5);
        int[][] rows = {{0, 0, 0, 4, 0, 0}, {1, 0, 0, 8, 0, 1}, {1, 2, 6, 23, 1, 0}, {1, 1, 1, 10, 1, 1},
            {1, 0, 0, 5, 2, 0}};
        for (int f = 0; f < rows.length; f++) {
            for (int what = 0; what < 6; what++) {
                Bench.due("function(" + f + ", " + what + ")", tongue.function(f, what), rows[f][what]);
            }
        }
        Bench.due("the unit's own", bench.code(1), "24 2 0; 4 1 0; 5 0 0; 3 1 0; 27 0 0; 5 0 0; 0 0 0; 29 0 0");
        Bench.due("f", bench.code(2), "1 0 0; 4 4 0; 5 0 0; 1 0 2; 2 0 0; 5 0 0; 24 3 0; 2 0 3; 5 0 0;"
                + " 31 12 0; 32 0 0; 20 14 0; 2 0 1; 5 0 0; 31 17 0; 32 0 0; 20 19 0; 2 0 4; 5 0 0;"
                + " 24 4 0; 29 0 0; 0 0 0; 29 0 0");
        Bench.due("h", bench.code(3), "1 1 0; 2 1 2; 5 0 0; 1 0 0; 27 1 0; 1 1 5; 7 0 0; 29 0 0; 0 0 0; 29 0 0");
        Bench.due("the one without name", bench.code(4), "1 1 4; 2 1 3; 5 0 0; 0 0 0; 29 0 0");
    }

    private static void sites() {
        Bench.about("promise 10");
        Bench bench = new Bench();
        bench.compile("a.b; fun f() { a.b; a[1]; } a.b(1); a.b(1, 2); a(1); new a(1); a[1] = 2; a.c = 1; a[2];");
        String[] want = {"0 1 0 0 1 0", "5 1 1 0 8 1", "5 1 2 0 13 2", "4 -1 1 0 17 3", "6 -1 1 0 21 4",
            "3 -1 0 0 26 5", "1 3 0 0 30 6", "2 -1 0 0 34 7", "0 1 0 1 1 0", "2 -1 0 1 5 7"};
        for (int s = 0; s < want.length; s++) {
            Bench.due("site(" + s + ")", bench.site(s, 0, 5), want[s]);
            Bench.due("site(" + s + ") at first", bench.site(s, 6, 10), "0 0 0 0 0");
        }
        Bench.due("count(6)", bench.tongue.count(6), 10);
        Bench.due("count(7)", bench.tongue.count(7), 8);
        bench.compile("q.b; q.z;");
        Bench.due("a unit more", bench.site(10, 0, 5) + ", " + bench.site(11, 0, 5), "0 1 0 2 1 0, 0 5 0 2 4 8");
    }

    private static void numbers() {
        Bench.about("promise 12, and numbers of names and texts");
        Bench bench = new Bench();
        bench.host("class hostly { int fieldly; }");
        bench.compile("var b; fun a(c, b) { d.e; } \"t\"; \"u\"; \"t\";");
        bench.compile("(((");
        bench.compile("x1; y1; \"v\"; ) ");
        bench.compile("try { } catch (f) { } ({ g: a }); \"u\"; \"w\"; f;");
        String names = "";
        for (int n = 0; n < 8; n++) {
            names += bench.name(n) + " ";
        }
        Bench.due("names", names, "b a c d e f g  ");
        Bench.due("count(8)", bench.tongue.count(8), 7);
        Bench.due("count(9)", bench.tongue.count(9), 3);
        Bench.due("a text's number", bench.code(2), "31 3 0; 32 0 0; 20 5 0; 4 5 0; 5 0 0; 26 0 0; 6 0 0; 3 1 0;"
                + " 27 1 0; 5 0 0; 5 0 0; 0 4 1; 5 0 0; 0 4 2; 5 0 0; 3 5 0; 5 0 0; 0 0 0; 29 0 0");
        Bench.due("name(0, 1)", bench.tongue.name(0, 1), -1);
        Bench.due("name(0, -1)", bench.tongue.name(0, -1), -1);
        Bench.due("name(-1, 0)", bench.tongue.name(-1, 0), -1);
    }

    private static void refused(String text, int kind, int place) {
        Bench bench = new Bench();
        Bench.due("fault of " + text, bench.fault(text), kind + 16 * place);
        String left = bench.tongue.count(0) + " " + bench.tongue.count(3) + " " + bench.tongue.count(4) + " "
                + bench.tongue.count(5) + " " + bench.tongue.count(6) + " " + bench.tongue.count(7) + " "
                + bench.tongue.count(8) + " " + bench.tongue.count(9);
        Bench.due("nothing is left of " + text, left, "0 0 0 0 0 0 0 0");
    }

    private static void taken(String text) {
        Bench.due("fault of " + text, new Bench().fault(text), -1);
    }

    private static void faultsOfTokens() {
        Bench.about("a source's fault 1");
        refused(";", 1, 0);
        refused("a", 1, 1);
        refused("a b;", 1, 2);
        refused("{ }", 1, 0);
        refused("{ a: 1 };", 1, 0);
        refused("fun () { };", 1, 4);
        refused("fun f(a,) { }", 1, 8);
        refused("fun f(1) { }", 1, 6);
        refused("fun f() a;", 1, 8);
        refused("fun if() { }", 1, 4);
        refused("var 1;", 1, 4);
        refused("var a b;", 1, 6);
        refused("var a == 1;", 1, 6);
        refused("if a { }", 1, 3);
        refused("if (a) b;", 1, 7);
        refused("if (a) { } else b;", 1, 16);
        refused("else { }", 1, 0);
        refused("while () { }", 1, 7);
        refused("while (a) ;", 1, 10);
        refused("return a", 1, 8);
        refused("throw;", 1, 5);
        refused("try { }", 1, 7);
        refused("try { } catch { }", 1, 14);
        refused("try { } catch (1) { }", 1, 15);
        refused("}", 1, 0);
        refused("a; }", 1, 3);
        refused("if (a) { ", 1, 9);
        refused("(a;", 1, 2);
        refused("a.1;", 1, 2);
        refused("a.print;", 1, 2);
        refused("a.new;", 1, 2);
        refused("a[1;", 1, 3);
        refused("a[];", 1, 2);
        refused("a(1,);", 1, 4);
        refused("a(1 2);", 1, 4);
        refused("[1,];", 1, 3);
        refused("x = { 1: 2 };", 1, 6);
        refused("x = { a 1 };", 1, 8);
        refused("x = { a: 1, };", 1, 12);
        refused("x = { this: 1 };", 1, 6);
        refused("new a;", 1, 5);
        refused("new a.b;", 1, 7);
        refused("new new a()();", 1, 4);
        refused("new a = 1;", 1, 6);
        refused("print 1;", 1, 6);
        refused("print;", 1, 5);
        refused("1 + ;", 1, 4);
        refused("1 + * 2;", 1, 4);
        refused("a = ;", 1, 4);
        refused("= 1;", 1, 0);
        refused("a !b;", 1, 2);
        refused("class A { }", 1, 6);
        refused("f(1, 2, 3, 4, 5, 6, 7, 8, );", 1, 26);
        taken("new a()(); new (a)(); new fun () { }(); new host(\"A\")(); new [1][0](); new this(); new 1();");
        taken("if (a) { } else if (b) { } else if (c) { } else { } // end");
    }

    private static void faultsOfTargets() {
        Bench.about("a source's fault 2");
        refused("1 = 2;", 2, 2);
        refused("(a) = 1;", 2, 4);
        refused("(a.b) = 1;", 2, 6);
        refused("a() = 1;", 2, 4);
        refused("a.b() = 1;", 2, 6);
        refused("new a() = 1;", 2, 8);
        refused("-a = 1;", 2, 3);
        refused("!a.b = 1;", 2, 5);
        refused("a + b = 1;", 2, 6);
        refused("a && b.c = 1;", 2, 9);
        refused("a = b + c = 1;", 2, 10);
        refused("var a = 1 = 2;", 2, 10);
        refused("this = 1;", 2, 5);
        refused("print(a) = 1;", 2, 9);
        refused("fun f() { [a] = 1; }", 2, 14);
        refused("if (1 = 2) { }", 2, 6);
        taken("a.b = 1; a[1] = 2; a()[1] = 3; (a).b = 4; \"t\".c = 5; new a().b = 6; x = {}.y = 7; [1][0] = 8;");
        taken("if (a = b) { } a[b = 1] = c(d = 2, [e = 3]); return f = 4;");
    }

    private static String times(String text, int n) {
        StringBuilder all = new StringBuilder();
        for (int i = 0; i < n; i++) {
            all.append(text);
        }
        return all.toString();
    }

    private static void faultsOfDepth() {
        Bench.about("a source's fault 4");
        taken(times("(", 50) + "a" + times(")", 50) + ";");
        refused(times("(", 51) + "a" + times(")", 51) + ";", 4, 50);
        taken(times("-", 50) + "a;");
        refused(times("-", 51) + "a;", 4, 50);
        taken(times("!", 49) + "(a);");
        refused(times("!", 49) + "((a));", 4, 50);
        taken(times("!", 49) + "a[1](2).b(3) + " + times("-", 50) + "1;");
        refused("1 + " + times("-", 50) + "a[1];", 4, 55);
        taken(times("a = ", 50) + "a;");
        refused(times("a = ", 51) + "a;", 4, 202);
        refused(times("a = ", 50) + "1 = 2;", 2, 202);
        refused(times("a = ", 50) + "(1);", 4, 200);
        taken(times("if (a) { ", 50) + times("} ", 50));
        refused(times("if (a) { ", 51) + times("} ", 51), 4, 453);
        taken(times("if (a) { } else ", 200) + "{ }");
        taken("x = " + times("[", 49) + times("]", 49) + ";");
        refused("x = " + times("[", 50) + times("]", 50) + ";", 4, 53);
        taken("var x = " + times("[", 50) + times("]", 50) + ";");
        taken(times("fun f(a) { ", 50) + times("} ", 50));
        refused(times("fun f(a) { ", 51) + times("} ", 51), 4, 555);
        taken(times("return fun () { ", 50) + times("}; ", 50));
        taken("if (1) { " + times("print(", 49) + "1" + times(")", 49) + "; }");
        taken("x = " + times("{ a: ", 49) + "1" + times("}", 49) + ";");
        refused("x = " + times("{ a: ", 50) + "1" + times("}", 50) + ";", 4, 249);
        refused(times("(", 50) + "f(1)" + times(")", 50) + ";", 4, 51);
        refused(times("(", 49) + "f(1, 2, 3, 4, 5, 6, 7, 8, (9))", 4, 75);
        refused(times("(", 48) + "f(1, 2, 3, 4, 5, 6, 7, 8, (9))", 6, 74);
        refused(times("(", 50) + ")", 1, 50);
        taken(times("1 + 2 * (3 < 4 && 5 == (6 || ", 25) + "1" + times("))", 25) + ";");
    }

    private static void faultsOfNumbers() {
        Bench.about("a source's faults 3, 5 and 6");
        refused("fun f(a, b, a) { }", 3, 12);
        refused("x = fun (a, a) { };", 3, 12);
        refused("fun f(a, b, c, d, e, f, g, h, a) { }", 3, 30);
        taken("fun f(a) { var a; fun a(a) { } try { } catch (a) { } }");
        refused("print();", 5, 6);
        refused("print(1, 2);", 5, 10);
        refused("turn(1);", 5, 6);
        refused("kind(1, 2, 3);", 5, 12);
        refused("host();", 5, 5);
        refused("has(1);", 5, 5);
        refused("print(1, 2, 3, 4, 5, 6, 7, 8, 9);", 6, 30);
        refused("fun f(a, b, c, d, e, f, g, h, i) { }", 6, 30);
        refused("f(1, 2, 3, 4, 5, 6, 7, 8, 9);", 6, 26);
        refused("a.f(1, 2, 3, 4, 5, 6, 7, 8, fun () { });", 6, 28);
        refused("new f(1, 2, 3, 4, 5, 6, 7, 8, -9);", 6, 30);
        taken("fun f(a, b, c, d, e, f, g, h) { f(1, 2, 3, 4, 5, 6, 7, 8); }");
    }

    private static void faultsOfRoom() {
        Bench.about("a source's fault 7");
        Bench bench = new Bench();
        for (int u = 0; u < 16; u++) {
            Bench.due("unit " + u, bench.compile("a;"), u);
        }
        Bench.due("the seventeenth", bench.compile("   )"), -8);
        Bench.due("its tape is gone", bench.tongue.count(0), 0);

        Bench many = new Bench();
        String functions = "x = [" + times("fun(){},", 398);
        Bench.due("401 functions", many.fault(functions + "fun(){},fun(){}];"), 7 + 16 * (functions.length() + 8));
        Bench.due("400 functions", many.compile(functions + "fun(){}];"), 0);
        Bench.due("count(4)", many.tongue.count(4), 400);
        Bench.due("one unit more", many.fault(" a;"), 7 + 16);
        Bench.due("an empty one", many.fault(" "), 7 + 16);
        Bench.due("one with a token that can't come", many.fault(" )"), 1 + 16);
        Bench.due("one with {", many.fault("{"), 1);
        Bench.due("none of it is left", many.tongue.count(4), 400);

        StringBuilder variables = new StringBuilder("fun f(a, b) { ");
        for (int i = 0; i < 58; i++) {
            variables.append("var v").append(i).append("; ");
        }
        taken(variables + "var a; var v3; }");
        taken(variables + "fun v7() { var q; } try { } catch (v8) { } }");
        refused(variables + "var x; }", 7, variables.length() + 4);
        refused(variables + "fun x() { } }", 7, variables.length() + 4);
        refused(variables + "try { } catch (x) { } }", 7, variables.length() + 15);
        taken("var x; " + variables.substring(14, variables.length()) + "var y; var z;");

        names();
    }

    private static void names() {
        Bench bench = Bench.ran("o = {}; i = 0; while (i < 3997) { o[\"n\" + i]; i = i + 1; }");
        Bench.due("3999 names", bench.tongue.count(8), 3999);
        Bench.due("one more", bench.compile("n5 + m;"), 1);
        Bench.due("a name too many", bench.fault("m; k;"), 7 + 16 * 3);
        Bench.due("one too many as property", bench.fault("m.k;"), 7 + 16 * 2);
        Bench.due("one too many that is told twice", bench.fault("fun m(n1, n1, k) { }"), 3 + 16 * 10);
        Bench.due("one too many, as ninth", bench.fault("m(1,1,1,1,1,1,1,1,k);"), 6 + 16 * 18);
        Bench.due("one too many that can't come", bench.fault("m k;"), 1 + 16 * 2);
        Bench.due("none too many", bench.fault("m.n7 = n8;"), -1);
        Bench.due("count(8)", bench.tongue.count(8), 4000);
    }

    private static void wrongArguments() {
        Bench.about("promises 8, 9 and 10, wrong arguments");
        Bench bench = new Bench();
        bench.compile("a.b;");
        Face tongue = bench.tongue;
        int[][] none = {{tongue.function(-1, 0), -1}, {tongue.function(1, 0), -1}, {tongue.function(0, -1), -1},
            {tongue.function(0, 6), -1}, {tongue.function(0, 7), -1}, {tongue.code(-1, 0, 0), -1},
            {tongue.code(1, 0, 0), -1}, {tongue.code(0, -1, 0), -1}, {tongue.code(0, 5, 0), -1},
            {tongue.code(0, 4, 0), 29}, {tongue.code(0, 0, -1), -1}, {tongue.code(0, 0, 3), -1},
            {tongue.site(-1, 0), -1}, {tongue.site(1, 0), -1}, {tongue.site(0, -1), -1}, {tongue.site(0, 11), -1},
            {tongue.site(0, 1), 1}, {tongue.name(2, 0), -1}, {tongue.entry(0, 0, 0), -1}};
        for (int i = 0; i < none.length; i++) {
            Bench.due("call " + i, none[i][0], none[i][1]);
        }
    }
}
