import java.util.NoSuchElementException;

/** Promises 13 to 18 and 22: tasks, their results, globals and the output; terms 5 and 9. */
public final class TasksTest {
    public static void main(String[] args) {
        starting();
        stepping();
        telling();
        results();
        globals();
        printing();
        operators();
        jumps();
        closures();
        catching();
        errors();
        builtins();
        depth();
        twoTasks();
        Bench.end();
    }

    private static void starting() {
        Bench.about("promise 13");
        Bench bench = new Bench();
        Face tongue = bench.tongue;
        bench.compile("return 1;");
        bench.compile("while (true) { }");
        Bench.due("no such unit", tongue.start(0, 2), false);
        Bench.due("no such unit", tongue.start(0, -1), false);
        Bench.due("no such task", tongue.start(2, 0), false);
        Bench.due("no such task", tongue.start(-1, 0), false);
        Bench.due("count(11)", tongue.count(11), 0);
        Bench.due("start(0, 0)", tongue.start(0, 0), true);
        Bench.due("it RUNS", tongue.start(0, 0), false);
        Bench.due("the other one", tongue.start(1, 1), true);
        Bench.due("count(11)", tongue.count(11), 2);
        tongue.steps(0, 1000);
        Bench.due("DONE, again", tongue.start(0, 0), true);
        Bench.due("task(0, 0)", tongue.task(0, 0), 1);
        Bench.due("count(11)", tongue.count(11), 3);
    }

    private static int thrownBySteps(Face tongue, int t, int n) {
        try {
            tongue.steps(t, n);
        } catch (IllegalArgumentException e) {
            return 1;
        } catch (IllegalStateException e) {
            return 2;
        }
        return 0;
    }

    private static void stepping() {
        Bench.about("promise 14");
        Bench bench = new Bench();
        Face tongue = bench.tongue;
        bench.compile("a = 1; return a;");
        Bench.due("not started", thrownBySteps(tongue, 0, 1), 2);
        Bench.due("no such task ahead of that", thrownBySteps(tongue, 2, 1), 1);
        Bench.due("no such task", thrownBySteps(tongue, -1, 1), 1);
        Bench.due("n 0", thrownBySteps(tongue, 0, 0), 1);
        Bench.due("n 1001", thrownBySteps(tongue, 0, 1001), 1);
        Bench.due("n least", thrownBySteps(tongue, 0, Integer.MIN_VALUE), 1);
        tongue.start(0, 0);
        Bench.due("steps(0, 2)", tongue.steps(0, 2), 2);
        Bench.due("the next one", tongue.task(0, 4), 2);
        Bench.due("the rest", tongue.steps(0, 1000), 3);
        Bench.due("DONE", thrownBySteps(tongue, 0, 1), 2);
        bench.compile("while (true) { }");
        tongue.start(0, 1);
        Bench.due("without an end", tongue.steps(0, 1000), 1000);
        Bench.due("a throw is a step", Bench.ran("throw 1;").tongue.task(0, 0), 3);
        Bench one = new Bench();
        Bench.due("steps up to a throw", one.run(0, "throw 1;"), 2);
        Bench.due("steps up to an ERROR", one.run(0, "1; null.a;"), 4);
        Bench.due("steps with a call", one.run(0, "fun f() { return 1; } f();"), 3 + 2 + 2 + 1 + 2);
    }

    private static String told(Face tongue, int t) {
        return tongue.task(t, 0) + " " + tongue.task(t, 1) + " " + tongue.task(t, 2) + " " + tongue.task(t, 3) + " "
                + tongue.task(t, 4);
    }

    private static void telling() {
        Bench.about("promise 15");
        Bench bench = new Bench();
        Face tongue = bench.tongue;
        bench.compile("fun f(a) { return a + 1; } x = 2 * f(3); throw x;");
        Bench.due("not started", told(tongue, 0), "0 0 0 -1 -1");
        tongue.start(0, 0);
        Bench.due("started", told(tongue, 0), "1 1 0 0 0");
        tongue.steps(0, 6);
        Bench.due("ahead of the call", told(tongue, 0), "1 1 3 0 6");
        tongue.steps(0, 1);
        Bench.due("in the call", told(tongue, 0), "1 2 1 1 0");
        tongue.steps(0, 3);
        Bench.due("ahead of RETURN", told(tongue, 0), "1 2 2 1 3");
        tongue.steps(0, 1);
        Bench.due("back", told(tongue, 0), "1 1 2 0 7");
        tongue.steps(0, 100);
        Bench.due("FAILED", told(tongue, 0), "3 0 0 -1 -1");
        Bench.due("task(0, -1)", tongue.task(0, -1), -1);
        Bench.due("task(0, 5)", tongue.task(0, 5), -1);
        Bench.due("task(-1, 0)", tongue.task(-1, 0), -1);
        Bench.due("task(2, 0)", tongue.task(2, 0), -1);
        bench.run(1, "return 1;");
        Bench.due("DONE", told(tongue, 1), "2 0 0 -1 -1");
        bench.run(1, "l = 1; return [1, 2, \"\" + print(\"\" + drop({}, \"\" + 1))] + (1 + kind(l.x));");
        Bench.due("FAILED within", told(tongue, 1), "3 0 0 -1 -1");
        Bench stopped = new Bench();
        stopped.run(0, "s = \"0123456789\"; fun f() { while (true) { s = s + s; } } 1 + f();");
        Bench.due("STOPPED", told(stopped.tongue, 0), "4 2 3 1 4");
        Bench.due("steps of what STOPPED", thrownBySteps(stopped.tongue, 0, 1), 2);
    }

    private static int thrownByResult(Face tongue, int t, int what) {
        try {
            tongue.result(t, what);
        } catch (IndexOutOfBoundsException e) {
            return 1;
        } catch (IllegalStateException e) {
            return 2;
        }
        return 0;
    }

    private static void results() {
        Bench.about("promises 16 and 17");
        Bench bench = new Bench();
        bench.host("class A { new (); } interface B { }");
        String[] values = {"null", "0 0", "false", "1 0", "true", "1 1", "-7", "2 -7", "2147483647 * 4", "2 8589934588",
            "\"abc\"", "3 3", "\"\"", "3 0", "{}", "4 0", "fun () { }", "5 1", "[1, 2]", "6 2", "new (host(\"A\"))()", "7 3",
            "host(\"A\")", "8 0", "host(\"B\")", "8 1"};
        for (int i = 0; i < values.length; i += 2) {
            bench.run(0, (i % 4 == 0 ? "return " : "throw ") + values[i] + ";");
            Bench.due("value " + values[i], bench.end(0), (i % 4 == 0 ? "2 " : "3 ") + values[i + 1]);
            Bench.due("sign of " + values[i], bench.tongue.sign(0, 1), values[i].equals("\"abc\"") ? 'b' : -1);
        }
        Bench texts = new Bench();
        texts.run(0, "return \"ab\" + 12;");
        Bench.due("text", texts.text(0), "ab12");
        Face tongue = texts.tongue;
        Bench.due("sign(0, 4)", tongue.sign(0, 4), -1);
        Bench.due("sign(0, -1)", tongue.sign(0, -1), -1);
        Bench.due("sign(1, 0)", tongue.sign(1, 0), -1);
        Bench.due("sign(2, 0)", tongue.sign(2, 0), -1);
        Bench.due("sign(-1, 0)", tongue.sign(-1, 0), -1);
        Bench.due("result(2, 0)", thrownByResult(tongue, 2, 0), 1);
        Bench.due("result(-1, 0)", thrownByResult(tongue, -1, 0), 1);
        Bench.due("result(0, 2)", thrownByResult(tongue, 0, 2), 1);
        Bench.due("result(0, -1)", thrownByResult(tongue, 0, -1), 1);
        Bench.due("result(1, 0)", thrownByResult(tongue, 1, 0), 2);
        Bench.due("result(1, 2)", thrownByResult(tongue, 1, 2), 1);
        tongue.start(0, 0);
        Bench.due("it RUNS", thrownByResult(tongue, 0, 0), 2);
        Bench.due("sign while it RUNS", tongue.sign(0, 0), -1);
    }

    private static int thrownByGlobal(Face tongue, int what) {
        try {
            tongue.global(what);
        } catch (IndexOutOfBoundsException e) {
            return 1;
        } catch (NoSuchElementException e) {
            return 2;
        }
        return 0;
    }

    private static void globals() {
        Bench.about("promise 18");
        Bench bench = Bench.ran("a = 5; b_2 = \"text\"; var c = {}; fun d() { e = null; var f = 1; } d(); var g; o = {};"
                + " o[\"a b\"] = 1; o.h = 2; try { throw 8; } catch (k) { }");
        String[] wants = {"a", "2 5", "b_2", "3 4", "c", "4 0", "d", "5 1", "e", "0 0", "f", "none", "g", "none", "h", "none",
            "a b", "none", "zz", "none", "", "none", " a", "none", "a ", "none", "print", "none", "k", "2 8"};
        for (int i = 0; i < wants.length; i += 2) {
            Bench.due("global " + wants[i], bench.global(wants[i]), wants[i + 1]);
        }
        Face tongue = bench.tongue;
        bench.feed("a");
        Bench.due("global(2)", thrownByGlobal(tongue, 2), 1);
        Bench.due("the tape is empty", tongue.count(0), 0);
        bench.feed("zz");
        Bench.due("no such what, nor global", thrownByGlobal(tongue, -1), 1);
        bench.feed("zz");
        Bench.due("no global", thrownByGlobal(tongue, 1), 2);
        Bench.due("the tape is empty", tongue.count(0), 0);
        Bench.due("no name by it", tongue.count(8), 11);
    }

    private static void printing() {
        Bench.about("promise 22, PRINTED");
        Bench bench = Bench.ran("class A { new (); } interface Bb { }", "print(null); print(true); print(false); print(-12);"
                + " print(\"t\"); print({}); print(fun () { }); print([1]); print(new (host(\"A\"))()); print(host(\"Bb\"));"
                + " m = 2147483647 + 1; print(m * m * -2); print(m * m * 2 - 1); print(0); print(\"\"); print(print(1));");
        Bench.due("output", bench.output(), "null\ntrue\nfalse\n-12\nt\n{}\nfun\n[]\nA@3\nBb\n-9223372036854775808\n"
                + "9223372036854775807\n0\n\n1\nnull\n");
        Bench.due("count(15)", bench.tongue.count(15), bench.output().length());
        Bench.due("output(-1)", bench.tongue.output(-1), -1);
        Bench.due("output behind the last", bench.tongue.output(bench.tongue.count(15)), -1);
        Bench.due("output(most)", bench.tongue.output(Integer.MAX_VALUE), -1);
    }

    private static void prints(String expression, String want) {
        Bench.due(expression, Bench.ran("m = 2147483647 + 1; b = m * m * 2; o = {}; try { print(" + expression
                + "); } catch (e) { print(\"e\" + e); }").output(), want + "\n");
    }

    private static void operators() {
        Bench.about("term 5, operators");
        String[] wants = {"7 / 2", "3", "-7 / 2", "-3", "7 / -2", "-3", "7 % -2", "1", "-7 % 2", "-1", "b / -1", "-9223372036854775808",
            "b % -1", "0", "-b", "-9223372036854775808", "b - 1", "9223372036854775807", "m * m * m", "0", "1 / 0", "e2", "1 % 0", "e2",
            "\"a\" / 0", "e1", "\"a\" + 1", "a1", "1 + \"a\"", "1a", "null + \"a\"", "nulla", "\"a\" + true", "atrue", "false + \"\"", "false",
            "\"a\" + \"b\"", "ab", "\"a\" + o", "e1", "o + \"a\"", "e1", "1 + null", "e1", "true + true", "e1", "1 + true", "e1",
            "\"a\" + b", "a-9223372036854775808", "\"a\" - 1", "e1", "null * 1", "e1", "-null", "e1", "-\"a\"", "e1", "-true", "e1",
            "1 < 2", "true", "2 <= 2", "true", "b < 0", "true", "2 > 2", "false", "2 >= 3", "false", "\"a\" < \"b\"", "true", "\"a\" < \"aa\"", "true",
            "\"b\" < \"aa\"", "false", "\"\" < \"a\"", "true", "\"a\" <= \"a\"", "true", "\"Z\" > \"a\"", "false", "\"ab\" >= \"ab\"", "true",
            "1 < \"a\"", "e1", "null < null", "e1", "o < o", "e1", "true <= true", "e1", "1 == 1", "true", "m == m + 0", "true", "1 == \"1\"", "false",
            "\"ab\" == \"a\" + \"b\"", "true", "\"ab\" != \"a\"", "true", "null == null", "true", "null == false", "false", "0 == false", "false",
            "true == true", "true", "true == false", "false", "o == o", "true", "o == {}", "false", "[] != []", "true", "null != o", "true",
            "!null", "true", "!false", "true", "!true", "false", "!0", "false", "!\"\"", "false", "!o", "false",
            "null || 1", "1", "0 || 1", "0", "false || null", "null", "1 && 2", "2", "null && 1", "null", "false && 1 || 3", "3",
            "\"\" && \"x\"", "x", "o || null.x", "{}", "null && null.x", "null"};
        for (int i = 0; i < wants.length; i += 2) {
            prints(wants[i], wants[i + 1]);
        }
    }

    private static void jumps() {
        Bench.about("if and while");
        String chain = "fun f(a) { if (a == 1) { return \"one\"; } else if (a == 2) { return \"two\"; } else if (a) { return \"is\"; }"
                + " else { return \"not\"; } } ";
        Bench.due("chain", Bench.ran(chain + "print(f(1)); print(f(2)); print(f(0)); print(f(null));").output(), "one\ntwo\nis\nnot\n");
        Bench.due("while", Bench.ran("i = 0; while (i < 3) { i = i + 1; if (i == 2) { } else { print(i); } } print(\"end\");").output(),
                "1\n3\nend\n");
        Bench.due("without else", Bench.ran("if (null) { print(1); } if (0) { print(2); }").output(), "2\n");
        Bench.due("a function's end", Bench.ran("fun f() { } return f();").end(0), "2 0 0");
        Bench.due("a unit's end", Bench.ran("1;").end(0), "2 0 0");
    }

    private static void closures() {
        Bench.about("VARIABLES");
        Bench.due("they live on", Bench.ran("fun c() { var n = 0; return { up: fun () { n = n + 1; return n; }, get: fun () { return n; } }; }"
                + " a = c(); b = c(); a.up(); a.up(); b.up(); print(a.get()); print(b.get());").output(), "2\n1\n");
        Bench.due("further out", Bench.ran("fun a(x) { return fun (y) { return fun (z) { x = x + 1; return x + y + z; }; }; }"
                + " f = a(1)(10); print(f(100)); print(f(100));").output(), "112\n113\n");
        Bench.due("told later", Bench.ran("x = 1; fun f() { x = 2; fun g() { return x; } var x; return g(); } print(f()); print(x);").output(),
                "2\n1\n");
        Bench.due("null at first", Bench.ran("x = 1; fun f() { var r = x; var x; return r; } print(f());").output(), "null\n");
        Bench.due("each call its own", Bench.ran("fun f(n) { var m = n; if (n > 0) { f(n - 1); } return m; } print(f(3));").output(), "3\n");
        Bench.due("this", Bench.ran("print(this); o = { m: fun () { return fun () { return this; }; } }; print(o.m()());"
                + " p = { m: fun () { return this == p; } }; print(p.m());").output(), "null\nnull\ntrue\n");
    }

    private static void catching() {
        Bench.about("TRY");
        Bench.due("the latest", Bench.ran("try { try { throw 1; } catch (a) { print(a); throw 2; } } catch (b) { print(b); } print(3);").output(),
                "1\n2\n3\n");
        Bench.due("through calls", Bench.ran("fun f(n) { if (n == 0) { throw \"x\"; } return 1 + f(n - 1); } try { print(f(5)); } catch (e) {"
                + " print(e); } print(f == f);").output(), "x\ntrue\n");
        Bench.due("END forgets", Bench.ran("try { 1; } catch (e) { print(1); } throw 5;").end(0), "3 2 5");
        Bench.due("RETURN forgets", Bench.ran("fun f() { try { try { return 1; } catch (a) { } } catch (b) { } } f(); throw 6;").end(0), "3 2 6");
        Bench.due("RETURN forgets its own alone", Bench.ran("fun f() { try { return 1; } catch (a) { } } try { f(); throw 6; } catch (e) {"
                + " print(e); }").output(), "6\n");
        Bench.due("values on the pile", Bench.ran("fun f() { try { return 1 + null; } catch (e) { return e; } } print([1, 2 + f(), 3][1]);").output(),
                "3\n");
        Bench bench = new Bench();
        bench.compile("l = [1, 2, f()]; fun f() { try { g(1, 2, 3); } catch (e) { while (true) { } } } ");
        bench.compile("fun f() { try { 1 + g(1, 2, h(3)); } catch (e) { while (true) { } } } fun h() { throw 1; } g = 2; l = [1, 2, f()];");
        bench.tongue.start(0, 1);
        bench.tongue.steps(0, 100);
        Bench.due("calls, pile", bench.tongue.task(0, 1) + " " + bench.tongue.task(0, 2), "2 2");
    }

    private static void errors() {
        Bench.about("ERRORS");
        String[] wants = {"1 + null", "1", "1 / 0", "2", "null.a", "3", "{}.a()", "4", "({ a: 1 }).a()", "5", "[1][5]", "6", "zz", "10",
            "make(1)", "12", "zz()", "10", "zz.a = 1", "10"};
        for (int i = 0; i < wants.length; i += 2) {
            Bench.due(wants[i], Bench.ran("x = " + wants[i] + ";").end(0), "3 2 " + wants[i + 1]);
        }
    }

    private static void builtins() {
        Bench.about("builtins");
        String[] wants = {"proto(make(o)) == o", "true", "proto(o)", "null", "proto(make(null))", "null", "make([])", "e12", "make(\"x\")", "e12",
            "make(1)", "e12", "kind(make(fun () { }))", "object", "proto(1)", "e12", "proto([])", "e12", "proto(null)", "e12",
            "turn(o, null) == o", "true", "turn(1, null)", "e12", "turn(o, 1)", "e12", "turn(o, [])", "e12", "turn(null, null)", "e12",
            "turn(o, o)", "e12", "turn(o, make(o))", "e12", "turn(o, make(make(o)))", "e12", "proto(turn(o, make(null))) == null", "false",
            "drop(o, \"a\")", "false", "drop(o, 1)", "e12", "drop(1, \"a\")", "e12", "drop([], \"a\")", "e12", "drop({ a: 1 }, \"a\")", "true",
            "drop(make({ a: 1 }), \"a\")", "false", "drop(o, \"\")", "false", "has(make({ a: null }), \"a\")", "true", "has(o, \"a\")", "false",
            "has(o, 1)", "e12", "has(1, \"a\")", "e12", "has([], \"size\")", "e12", "has(fun () { }, \"x\")", "false", "has(o, \"\")", "false",
            "kind(null)", "null", "kind(true)", "bool", "kind(2147483647)", "int", "kind(m)", "long", "kind(-m)", "int", "kind(-m - 1)", "long",
            "kind(\"\")", "text", "kind(o)", "object", "kind(fun () { })", "fun", "kind([])", "list", "host(\"A\")", "e12", "host(1)", "e12",
            "host(null)", "e12", "host(\"int\")", "e12", "host(\"\")", "e12"};
        for (int i = 0; i < wants.length; i += 2) {
            prints(wants[i], wants[i + 1]);
        }
        Bench.due("hosts", Bench.ran("class A { new (); } interface I { }", "print(kind(host(\"A\"))); print(kind(new (host(\"A\"))()));"
                + " print(host(\"A\") == host(\"A\")); print(host(\"A\") == host(\"I\")); try { make(host(\"A\")); } catch (e) { print(e); }"
                + " try { host(\"AI\"); } catch (e) { print(e); }").output(), "class\nhost\ntrue\nfalse\n12\n12\n");
    }

    private static void depth() {
        Bench.about("ERROR 11");
        String fun = "fun f(n) { if (n == 1) { return 1; } return 1 + f(n - 1); } ";
        Bench.due("199 calls in the unit's", Bench.ran(fun + "print(f(199));").output(), "199\n");
        Bench.due("200", Bench.ran(fun + "print(f(200));").end(0), "3 2 11");
        Bench.due("it can be caught where the call stands",
                Bench.ran("n = 0; fun f() { n = n + 1; try { f(); } catch (e) { print(e); print(n); } } f();").output(), "11\n199\n");
        Bench made = Bench.ran("fun f() { try { return new f(); } catch (e) { print(e); } } new f();");
        Bench.due("NEW makes no object then", made.output() + made.tongue.count(10), "11\n" + (1 + 199));
        Bench.due("but its site has linked", made.site(0, 6, 7) + " " + made.site(1, 6, 7), "1 0 1 198");
        Bench methods = Bench.ran("o = { m: fun () { return this.m(); } }; o.m();");
        Bench.due("METHOD", methods.end(0), "3 2 11");
        // Each call leaves ten values on the pile, and the last one looks how many more go.
        String pile = "fun f(n) { return [0, 1, 2, 3, 4, 5, 6, 7, 8, 9, n == 0 || f(n - 1)].size; } ";
        Bench.due("a deep pile", Bench.ran(pile + "print(f(190));").output(), "11\n");
        StringBuilder list = new StringBuilder("l = [0");
        for (int i = 1; i < 1999; i++) {
            list.append(",").append(i % 10);
        }
        Bench.due("2000 values", Bench.ran(list + ", 7]; print(l.size);").output(), "2000\n");
        Bench.due("2001 values", Bench.ran(list + ", 7, 8]; print(l.size);").end(0), "3 2 11");
        String[] more = {"zz", "this", "[]", "{}", "fun () { }", "\"t\"", "null"};
        for (String one : more) {
            Bench.due("2001 values with " + one, Bench.ran(list + ", 7, " + one + "];").end(0), "3 2 11");
            Bench.due("2000 values with " + one, Bench.ran("zz = 1; " + list + ", " + one + "];").end(0), "2 0 0");
        }
        Bench.due("a DUP too many", Bench.ran(list + ", { a: 1 }];").end(0), "3 2 11");
        Bench.due("a LOAD too many", Bench.ran("fun f(a) { " + list + ", 1, a]; } f(1);").end(0), "3 2 11");
    }

    private static void twoTasks() {
        Bench.about("two tasks");
        Bench bench = new Bench();
        bench.compile("n = 0; while (n < 100) { n = n + 1; }");
        bench.compile("n = 1000; return n;");
        bench.tongue.start(0, 0);
        bench.tongue.steps(0, 43);
        bench.runUnit(1, 1);
        bench.tongue.steps(0, 1000);
        Bench.due("they share globals", bench.global("n") + " " + bench.end(0) + " " + bench.end(1), "2 1000 2 0 0 2 2 1000");
    }
}
