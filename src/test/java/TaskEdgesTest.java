/** Promises 13 to 18 and 22 and terms 5 and 9 but for MEMORY, sentence by sentence. */
public final class TaskEdgesTest {
    private static final int[] FAR = {Integer.MIN_VALUE, -2, -1, 2, 3, Integer.MAX_VALUE};
    private static final String HEAD = "c = 2147483647 + 1; b = c * 2; m = c * c * 2 - 1; o = {}; l = []; f = fun () { }; t = \"text\"; ";

    public static void main(String[] args) {
        starting();
        startingAnew();
        steps();
        task();
        result();
        sign();
        global();
        output();
        intOrLong();
        goingRound();
        divisions();
        joining();
        comparing();
        equality();
        notOrElse();
        printed();
        pile();
        parameters();
        variables();
        returning();
        tries();
        triesOfTasks();
        errorsGoOn();
        twoHundredCalls();
        twoThousandValues();
        builtins();
        twoTasks();
        Bench.end();
    }

    /** What an expression prints, or the ERROR that it is. */
    private static void prints(String... wants) {
        for (int i = 0; i < wants.length; i += 2) {
            Bench.due(wants[i], Bench.ran(HEAD + " try { print(" + wants[i] + "); } catch (e) { print(\"e\" + e); }").output(), wants[i
                    + 1] + "\n");
        }
    }

    private static void starting() {
        Bench.about("promise 13: false if there are no such ones, or it RUNS");
        Bench bench = new Bench();
        Bench.due("no unit yet", bench.tongue.start(0, 0), false);
        bench.compile("return this;");
        bench.compile("");
        for (int far : FAR) {
            Bench.due("task " + far, bench.tongue.start(far, 0), false);
            Bench.due("unit " + far, bench.tongue.start(0, far), false);
        }
        Bench.due("nothing is changed", bench.tongue.count(11) + ", " + bench.told(0) + ", " + bench.told(1),
                "0, 0 0 0 -1 -1, 0 0 0 -1 -1");
        Bench.due("the first", bench.tongue.start(0, 0) + " " + bench.told(0), "true 1 1 0 0 0");
        Bench.due("it RUNS", bench.tongue.start(0, 1) + " " + bench.tongue.start(0, 0) + " " + bench.tongue.count(11), "false false 1");
        bench.tongue.steps(0, 1);
        Bench.due("it RUNS still", bench.tongue.start(0, 0) + " " + bench.told(0), "false 1 1 1 0 1");
        Bench.due("the last of the second", bench.tongue.start(1, 1) + " " + bench.told(1), "true 1 1 0 1 0");
        bench.tongue.steps(0, 1);
        Bench.due("THIS is null", bench.end(0), "2 0 0");
        Bench.due("calls", bench.tongue.count(11), 2);
    }

    private static void startingAnew() {
        Bench.about("promise 13: a task that is DONE, FAILED or STOPPED begins from its beginning");
        String[] units = {"1; return [1, 2];", "[1, 2]; fun f() { throw 5; } 1 + f();", "print(\"" + "0123456789".repeat(6)
                + "\"); [1, s + s];"};
        String[] ends = {"2", "3", "4"};
        Bench bench = new Bench();
        bench.run(1, "s = \"" + "0123456789".repeat(6) + "\"; i = 0; while (i < 10) { s = s + s; i = i + 1; }");
        for (int u = 0; u < units.length; u++) {
            bench.run(0, units[u]);
            Bench.due("ended", bench.tongue.task(0, 0), Integer.parseInt(ends[u]));
            Bench.due("again", bench.tongue.start(0, 1 + u), true);
            Bench.due("from its beginning", bench.told(0), "1 1 0 " + bench.tongue.task(0, 3) + " 0");
            Bench.due("no result any more", Bench.answer(() -> bench.tongue.result(0, 0)), "IllegalStateException");
            Bench.due("no sign", bench.tongue.sign(0, 0), -1);
            bench.tongue.steps(0, 1000);
            Bench.due("ended again", bench.tongue.task(0, 0), Integer.parseInt(ends[u]));
        }
        Bench.due("what STOPPED stays so", Bench.answer(() -> bench.tongue.steps(0, 1)) + " " + bench.tongue.task(0, 0),
                "IllegalStateException 4");
    }

    private static void steps() {
        Bench.about("promise 14: IllegalArgumentException: no such task, or n is not 1 .. 1000; IllegalStateException: it does not RUN");
        Bench bench = new Bench();
        bench.compile("while (true) { }");
        bench.compile("1; return 2;");
        int[] wrong = {Integer.MIN_VALUE, -1, 0, 1001, 1002, Integer.MAX_VALUE};
        for (int state = 0; state < 2; state++) {
            for (int n : wrong) {
                Bench.due("steps(0, " + n + ")", Bench.answer(() -> bench.tongue.steps(0, n)), "IllegalArgumentException");
            }
            for (int far : FAR) {
                Bench.due("steps(" + far + ", 1)", Bench.answer(() -> bench.tongue.steps(far, 1)), "IllegalArgumentException");
                Bench.due("steps(" + far + ", 0)", Bench.answer(() -> bench.tongue.steps(far, 0)), "IllegalArgumentException");
            }
            Bench.due("steps(1, 1)", Bench.answer(() -> bench.tongue.steps(1, 1)), "IllegalStateException");
            Bench.due("steps(1, 1001)", Bench.answer(() -> bench.tongue.steps(1, 1001)), "IllegalArgumentException");
            if (state == 0) {
                bench.tongue.start(0, 0);
            }
            Bench.due("none was done", bench.told(0), "1 1 0 0 0");
        }
        Bench.due("steps(0, 1)", bench.tongue.steps(0, 1) + ": " + bench.told(0), "1: 1 1 1 0 1");
        Bench.due("steps(0, 1000)", bench.tongue.steps(0, 1000) + ": " + bench.told(0), "1000: 1 1 0 0 2");
        Bench.due("steps(0, 999)", bench.tongue.steps(0, 999) + ": " + bench.told(0), "999: 1 1 0 0 2");
        bench.tongue.start(1, 1);
        Bench.due("up to the last", bench.tongue.steps(1, 3) + ": " + bench.told(1), "3: 1 1 1 1 3");
        Bench.due("the last", bench.tongue.steps(1, 1000) + ": " + bench.told(1), "1: 2 0 0 -1 -1");
        Bench.due("DONE", Bench.answer(() -> bench.tongue.steps(1, 1)), "IllegalStateException");
        bench.compile("1 / 0;");
        bench.tongue.start(1, 2);
        Bench.due("a step that FAILED is one", bench.tongue.steps(1, 9) + ": " + bench.told(1), "3: 3 0 0 -1 -1");
        Bench.due("FAILED", Bench.answer(() -> bench.tongue.steps(1, 1)), "IllegalStateException");
        bench.compile("s = \"0123456789\"; while (1) { s = s + s; }");
        bench.tongue.start(1, 3);
        int done = bench.tongue.steps(1, 1000);
        Bench.due("the one that would go beyond MEMORY is none", done, 3 + 13 * 8 + 4);
        Bench.due("STOPPED", bench.told(1), "4 1 2 3 7");
        Bench.due("STOPPED", Bench.answer(() -> bench.tongue.steps(1, 1)), "IllegalStateException");
    }

    private static void task() {
        Bench.about("promise 15: NONE for another t or what");
        Bench bench = new Bench();
        bench.compile("fun f(a) { return g(a, 2); } fun g(a, b) { throw [a, b]; } 1 + f(3);");
        Bench.due("0 not started", bench.told(0), "0 0 0 -1 -1");
        bench.tongue.start(0, 0);
        String all = "";
        while (bench.tongue.task(0, 0) == 1) {
            all += bench.tongue.task(0, 1) + " " + bench.tongue.task(0, 2) + " " + bench.tongue.task(0, 3) + " " + bench.tongue.task(0, 4)
                    + ", ";
            bench.tongue.steps(0, 1);
        }
        Bench.due("calls, pile, function, instruction", all,
                "1 0 0 0, 1 1 0 1, 1 1 0 2, 1 0 0 3, 1 1 0 4, 1 1 0 5, 1 0 0 6, 1 1 0 7, 1 2 0 8, 1 3 0 9, 2 1 1 0, 2 2 1 1, 2 3 1 2, 2"
                + " 4 1 3, 3 1 2 0, 3 2 2 1,"
                + " 3 3 2 2, 3 2 2 3, ");
        Bench.due("3 FAILED", bench.told(0), "3 0 0 -1 -1");
        for (int far : FAR) {
            for (int what = -1; what <= 5; what++) {
                Bench.due("task(" + far + ", " + what + ")", bench.tongue.task(far, what), -1);
            }
        }
        for (int what : new int[] {Integer.MIN_VALUE, -1, 5, 6, Integer.MAX_VALUE}) {
            Bench.due("task(0, " + what + ")", bench.tongue.task(0, what), -1);
        }
        bench.run(1, "return 5;");
        Bench.due("2 DONE", bench.told(1), "2 0 0 -1 -1");
        bench.host("");
        Bench.due("by a new host", bench.told(0) + ", " + bench.told(1), "0 0 0 -1 -1, 0 0 0 -1 -1");
    }

    private static void result() {
        Bench.about("promise 16: IndexOutOfBoundsException: no such task or what; IllegalStateException: it is neither DONE nor FAILED");
        Bench bench = new Bench();
        bench.compile("return 7;");
        for (int state = 0; state < 3; state++) {
            for (int what : new int[] {Integer.MIN_VALUE, -1, 2, 3, Integer.MAX_VALUE}) {
                Bench.due("result(0, " + what + ")", Bench.answer(() -> bench.tongue.result(0, what)), "IndexOutOfBoundsException");
            }
            for (int far : FAR) {
                Bench.due("result(" + far + ", 0)", Bench.answer(() -> bench.tongue.result(far, 0)), "IndexOutOfBoundsException");
                Bench.due("result(" + far + ", 2)", Bench.answer(() -> bench.tongue.result(far, 2)), "IndexOutOfBoundsException");
            }
            String due = state == 2 ? "2 7" : "IllegalStateException IllegalStateException";
            Bench.due("in state " + state, Bench.answer(() -> bench.tongue.result(0, 0)) + " "
                    + Bench.answer(() -> bench.tongue.result(0, 1)), due);
            if (state == 0) {
                bench.tongue.start(0, 0);
            } else if (state == 1) {
                bench.tongue.steps(0, 9);
            }
        }
        Bench.due("of the other task", Bench.answer(() -> bench.tongue.result(1, 0)), "IllegalStateException");
        bench.run(1, "s = \"0123456789\"; while (1) { s = s + s; }");
        Bench.due("STOPPED", Bench.answer(() -> bench.tongue.result(1, 0)) + " " + bench.tongue.task(1, 0), "IllegalStateException 4");
        String[] values = {"null", "0 0", "false", "1 0", "true", "1 1", "1 < 2", "1 1", "!1", "1 0", "!null", "1 1", "0", "2 0", "-1",
                "2 -1", "m", "2 9223372036854775807", "-m - 1", "2 -9223372036854775808",
            "\"\"", "3 0", "t + t", "3 8", "o", "4 0", "f", "5 2", "l", "6 1", "{}", "4 3", "has(o, t)", "1 0", "drop(o, t)", "1 0",
            "1 == 1", "1 1", "1 != 1", "1 0", "t >= t", "1 1"};
        for (int i = 0; i < values.length; i += 2) {
            Bench.due("return " + values[i], Bench.ran(HEAD + "return " + values[i] + ";").end(0), "2 " + values[i + 1]);
            Bench.due("throw " + values[i], Bench.ran(HEAD + "throw " + values[i] + ";").end(0), "3 " + values[i + 1]);
        }
        Bench hosts = new Bench();
        hosts.host("class A { new (); } interface B { }");
        hosts.run(0, "o = {}; return new (host(\"A\"))();");
        Bench.due("an instance", hosts.end(0), "2 7 1");
        hosts.run(0, "throw host(\"A\");");
        Bench.due("host class 0", hosts.end(0), "3 8 0");
        hosts.run(0, "return host(\"B\");");
        Bench.due("host class 1", hosts.end(0), "2 8 1");
    }

    private static void sign() {
        Bench.about("promise 17: sign i of that value, if it is a text; NONE if there is none");
        Bench bench = new Bench();
        bench.run(0, "return \"a\\n~ \" + 7;");
        bench.run(1, "throw \"\";");
        Bench.due("the text", bench.text(0), "a\n~ 7");
        Bench.due("first and last", bench.tongue.sign(0, 0) + " " + bench.tongue.sign(0, 4) + " " + bench.tongue.sign(0, 5), "97 55 -1");
        Bench.due("of an empty one", bench.tongue.sign(1, 0), -1);
        for (int i : new int[] {Integer.MIN_VALUE, -1, 5, 6, Integer.MAX_VALUE}) {
            Bench.due("sign(0, " + i + ")", bench.tongue.sign(0, i), -1);
        }
        for (int far : FAR) {
            Bench.due("sign(" + far + ", 0)", bench.tongue.sign(far, 0), -1);
        }
        bench.run(0, "throw \"xy\";");
        Bench.due("FAILED", bench.text(0), "xy");
        for (String other : new String[] {"null", "true", "3", "{}", "[\"a\"]", "fun () { }"}) {
            bench.run(0, "return " + other + ";");
            Bench.due("of " + other, bench.tongue.sign(0, 0), -1);
        }
        bench.run(0, "return \"q\";");
        bench.tongue.start(0, 0);
        Bench.due("it RUNS", bench.tongue.sign(0, 0), -1);
    }

    private static void global() {
        Bench.about("promise 18: the value of the global that the tape is the name of; NoSuchElementException: it has none");
        String thirty = "a23456789_123456789_123456789_";
        Bench bench = Bench.ran(HEAD + "n = null; v = false; var w; var x = 1; fun g(p) { q = 2; var r = 3; s; } u = { y: 1 }; try {"
                + " g(); } catch (z) { } " + thirty + " = 9;");
        String[] wants = {"n", "0 0", "v", "1 0", "m", "2 9223372036854775807", "t", "3 4", "o", "4 0", "f", "5 2", "l", "6 1", "w",
                "none", "x", "2 1", "g", "5 3", "p", "none", "q", "2 2", "r", "none", "s", "none",
            "u", "4 4", "y", "none", "z", "2 10", thirty, "2 9", thirty + "_", "none", thirty.substring(1), "none", "zz", "none", "",
            "none", " ", "none", "n ", "none", " n", "none", "n;", "none", "\"t\"", "none", "var", "none",
            "print", "none", "proto", "none", "size", "none", "7", "none", "#", "none", "x".repeat(70), "none", "nn", "none", "t\n",
            "none"};
        for (int i = 0; i < wants.length; i += 2) {
            Bench.due("global " + wants[i], bench.global(wants[i]), wants[i + 1]);
        }
        Bench.due("no NAME by it", bench.name(bench.tongue.count(8) - 1), thirty);
        for (int what : new int[] {Integer.MIN_VALUE, -1, 2, 3, Integer.MAX_VALUE}) {
            bench.feed("x");
            Bench.due("global(" + what + ")", Bench.answer(() -> bench.tongue.global(what)), "IndexOutOfBoundsException");
            bench.feed("zz");
            Bench.due("global(" + what + ") of none", Bench.answer(() -> bench.tongue.global(what)), "IndexOutOfBoundsException");
        }
        bench.feed("zz");
        Bench.due("global(0) of none", Bench.answer(() -> bench.tongue.global(0)), "NoSuchElementException");
        bench.feed("w");
        Bench.due("global(1) of none", Bench.answer(() -> bench.tongue.global(1)), "NoSuchElementException");
        Bench.due("nothing fed", Bench.answer(() -> bench.tongue.global(1)), "NoSuchElementException");
        Bench last = new Bench();
        last.run(0, "a = 1; b;");
        Bench.due("the last name has none", last.global("b") + ", " + last.global("a"), "none, 2 1");
        last.run(0, "b = 2; c = 3; d;");
        Bench.due("now", last.global("b") + ", " + last.global("c") + ", " + last.global("d"), "2 2, 2 3, none");
        last.host("");
        last.compile("c; b; a;");
        Bench.due("none of an old host", last.global("a") + last.global("b") + last.global("c"), "nonenonenone");
    }

    private static void output() {
        Bench.about("promise 22: byte i of the OUTPUT; NONE if there is none");
        Bench bench = Bench.ran("print(\"ab\"); print(\"\"); print(\"\\n\");");
        Bench.due("all", bench.output() + bench.tongue.count(15), "ab\n\n\n\n6");
        for (int i : new int[] {Integer.MIN_VALUE, -1, 6, 7, 65535, 65536, Integer.MAX_VALUE}) {
            Bench.due("output(" + i + ")", bench.tongue.output(i), -1);
        }
        Bench.due("of none", new Face.Real().output(0), -1);
        bench.run(0, "print(1);");
        bench.run(1, "print(2);");
        Bench.due("of both tasks", bench.output(), "ab\n\n\n\n1\n2\n");
    }

    private static void intOrLong() {
        Bench.about("term 5: INT if they are -2^31 .. 2^31 - 1, else LONG");
        prints("kind(2147483647)", "int", "kind(2147483647 + 1)", "long", "kind(-2147483647 - 1)", "int", "kind(-2147483647 - 2)", "long",
                "kind(0)", "int", "kind(m)", "long", "kind(-m - 1)", "long", "kind(b)", "long",
                "kind(b - b)", "int", "kind(c - 1)", "int");
        Bench bench = Bench.ran("class A { Any m(Int); Text m(Long); new (); }", HEAD
                + "a = new (host(\"A\"))(); v = [2147483647, c, -c, -c - 1, m, 0]; i = 0; while (i < 6) { print(a.m(v[i])); i = i + 1; }");
        Bench.due("the CLASS of a value", bench.output(), "A@3\nm\nA@3\nm\nm\nA@3\n");
    }

    private static void goingRound() {
        Bench.about("term 5: 64 bits that go round");
        prints("m", "9223372036854775807", "m + 1", "-9223372036854775808", "-m - 2", "9223372036854775807", "m + m", "-2", "m * m", "1",
                "m * 2", "-2", "(m + 1) * -1", "-9223372036854775808", "-(m + 1)", "-9223372036854775808",
                "(m + 1) / -1", "-9223372036854775808", "(m + 1) % -1", "0", "b * b", "0", "-0", "0", "m - -1", "-9223372036854775808",
                "m + 1 < 0", "true", "m + 1 == -m - 1", "true");
    }

    private static void divisions() {
        Bench.about("terms 5 and 9: / and % towards 0; ERROR 2 by 0");
        prints("7 / 2", "3", "-7 / 2", "-3", "7 / -2", "-3", "-7 / -2", "3", "7 % 2", "1", "-7 % 2", "-1", "7 % -2", "1", "-7 % -2", "-1",
                "6 / 2", "3", "6 % 2", "0", "1 / 2", "0", "-1 / 2", "0", "1 % 2", "1", "0 / 5", "0", "0 % 5", "0",
                "1 / 0", "e2", "1 % 0", "e2", "0 / 0", "e2", "m / 0", "e2", "m % 0", "e2", "m / m", "1", "m / 1", "9223372036854775807",
                "t / 0", "e1", "0 / t", "e1", "null % 0", "e1", "1 / (1 - 1)", "e2", "b / c", "2", "-b / c", "-2");
    }

    private static void joining() {
        Bench.about("term 5: + adds numbers; with a text and a text, number, null, false or true what they PRINT, one behind the other;"
                + " ERROR 1 an operator that does not take these");
        String[] values = {"null", "true", "false", "7", "t", "o", "f", "l", "host(\"A\")", "new (host(\"A\"))()"};
        String[] shown = {"null", "true", "false", "7", "text", "", "", "", "", ""};
        for (int i = 0; i < values.length; i++) {
            for (int j = 0; j < values.length; j++) {
                boolean numbers = i == 3 && j == 3;
                boolean texts = (i == 4 || j == 4) && i < 5 && j < 5;
                String due = numbers ? "14" : texts ? shown[i] + shown[j] : "e1";
                Bench bench = Bench.ran("class A { new (); }", HEAD + "try { print(" + values[i] + " + " + values[j]
                        + "); } catch (e) { print(\"e\" + e); }");
                Bench.due(values[i] + " + " + values[j], bench.output(), due + "\n");
                for (String op : new String[] {"-", "*", "/", "%"}) {
                    bench = Bench.ran("class A { new (); }", HEAD + "try { " + values[i] + " " + op + " " + values[j]
                            + "; print(1); } catch (e) { print(\"e\" + e); }");
                    Bench.due(values[i] + " " + op + " " + values[j], bench.output(), numbers ? "1\n" : "e1\n");
                }
                for (String op : new String[] {"<", "<=", ">", ">="}) {
                    bench = Bench.ran("class A { new (); }", HEAD + "try { " + values[i] + " " + op + " " + values[j]
                            + "; print(1); } catch (e) { print(\"e\" + e); }");
                    Bench.due(values[i] + " " + op + " " + values[j], bench.output(), numbers || i == 4 && j == 4 ? "1\n" : "e1\n");
                }
            }
            Bench bench = Bench.ran("class A { new (); }", HEAD + "try { -" + values[i] + "; print(1); } catch (e) { print(\"e\" + e); }");
            Bench.due("-" + values[i], bench.output(), i == 3 ? "1\n" : "e1\n");
        }
        prints("\"\" + \"\"", "", "t + \"\"", "text", "\"\" + t", "text", "t + -7", "text-7", "-7 + t", "-7text", "t + m",
                "text9223372036854775807", "(-m - 1) + t", "-9223372036854775808text", "t + 0", "text0", "1 + 2 + t", "3text", "t + 1 + 2",
                "text12",
                "(t + 1).size", "5", "(\"\" + null).size", "4");
    }

    private static void comparing() {
        Bench.about("term 5: < <= > >= two numbers or two texts (byte by byte, one that ends before another)");
        String[] texts = {"", " ", "!", "0", "A", "AA", "AZ", "Z", "_", "a", "aa", "aaa", "ab", "b", "ba", "~"};
        StringBuilder text = new StringBuilder("v = [");
        for (String one : texts) {
            text.append(text.length() > 5 ? ", " : "").append('"').append(one).append('"');
        }
        // Of each one the numbers of those with which it stands so, as bits.
        String loop = " i = 0; while (i < N) { j = 0; k = 1; r = [0, 0, 0, 0, 0, 0]; while (j < N) { x = v[i]; y = v[j]; if (x < y) {"
                + " r[0] = r[0] + k; } if (x <= y) { r[1] = r[1] + k; } if (x > y) { r[2] = r[2] + k; }"
                + " if (x >= y) { r[3] = r[3] + k; } if (x == y) { r[4] = r[4] + k; } if (x != y) { r[5] = r[5] + k; } j = j + 1; k = k"
                + " * 2; } print(r[0]); print(r[1]); print(r[2]); print(r[3]); print(r[4]); print(r[5]); i = i + 1; }";
        String sixteen = text + "];" + loop.replace("N", "16");
        Bench.due("texts", Bench.alike(() -> Bench.ran(sixteen)).output(), ordered(16));
        Bench.due("texts that are the same, made anew", Bench.alike(() -> Bench.ran(sixteen.replace("y = v[j]",
                "y = \"\" + v[j]"))).output(), ordered(16));
        Bench.due("numbers", Bench.ran(HEAD + "v = [-m - 1, -m, -b, -c - 1, -c, -1, 0, 1, 2, c - 1, c, b, m - 1, m];" + loop.replace("N",
                "14")).output(), ordered(14));
        prints("(1 < 2) == true", "true", "(2 < 1) == false", "true", "(t <= t) == true", "true", "\"\\n\" < \" \"", "true",
                "\"a\" < \"\"", "false", "\"\" <= \"\"", "true");
    }

    /** What the loop above prints of so many values that stand in their order. */
    private static String ordered(int size) {
        StringBuilder text = new StringBuilder();
        int all = (1 << size) - 1;
        for (int i = 0; i < size; i++) {
            int less = (1 << i) - 1;
            int own = 1 << i;
            text.append(all - less - own).append('\n').append(all - less).append('\n').append(less).append('\n').append(less
                    + own).append('\n').append(own).append('\n').append(all - own).append('\n');
        }
        return text.toString();
    }

    private static void equality() {
        Bench.about("term 5: == and != by value, things just with themselves");
        String[] values = {"null", "true", "false", "0", "1", "m", "\"\"", "\"null\"", "\"0\"", "t", "o", "{}", "f", "fun () { }", "l",
                "[]", "host(\"A\")", "host(\"B\")", "a", "new (host(\"A\"))()"};
        for (int i = 0; i < values.length; i++) {
            for (int j = 0; j < values.length; j++) {
                boolean made = values[i].endsWith("}") || values[i].equals("[]") || values[i].startsWith("new");
                Bench bench = Bench.ran("class A { new (); } class B { }", HEAD + "a = new (host(\"A\"))(); print(" + values[i] + " == "
                        + values[j] + "); print(" + values[i] + " != " + values[j] + ");");
                boolean equal = i == j && !made;
                Bench.due(values[i] + " == " + values[j], bench.output(), equal + "\n" + !equal + "\n");
            }
        }
        prints("\"te\" + \"xt\" == t", "true", "t.sub(0, 2) == \"te\"", "true", "c - 1 == 2147483647", "true", "kind(1) == \"int\"",
                "true", "(1 == 1) == true", "true", "(1 == 2) == false", "true", "null == false", "false", "!null == true", "true",
                "print(1) == null && l.x_ == null", "1\ne4", "o.zz == null", "true", "has(o, t) == false", "true", "drop(o, t) == false",
                "true", "f() == null", "true", "proto(o) == null", "true");
    }

    private static void notOrElse() {
        Bench.about("term 5: null and false are NOT, all else is");
        String[] values = {"null", "false", "true", "0", "1", "-1", "\"\"", "t", "o", "f", "l", "m"};
        for (int i = 0; i < values.length; i++) {
            String is = i < 2 ? "0" : "1";
            Bench bench = Bench.ran(HEAD + "v = " + values[i] + "; if (v) { print(1); } else { print(0); } print(!v == (" + is
                    + " == 0)); n = 0; while (v) { n = 1; v = null; } print(n); v = " + values[i]
                    + "; w = v || \"else\"; print(w == v); print((v && \"and\") == v); if (!v) { print(0); } else { print(1); }");
            Bench.due(values[i], bench.output(), is + "\ntrue\n" + is + "\n" + (i >= 2) + "\n" + (i < 2) + "\n" + is + "\n");
        }
        prints("null || false", "false", "false || null", "null", "null && zz", "null", "false && zz", "false", "0 || zz", "0",
                "\"\" || zz", "", "null || zz", "e10", "1 && zz", "e10", "null && zz || 3", "3", "1 && 2 && 3", "3", "null || false || 4",
                "4",
                "!!null", "false", "!!0", "true");
    }

    private static void printed() {
        Bench.about("term 5: PRINTED");
        Bench bench = Bench.ran("class A { new (); } class Long_name { new (); } interface I { }", HEAD
                + "print(null); print(true); print(false); print(0); print(-1); print(m); print(-m - 1); print(10); print(-1000);"
                + " print(b); print(t); print(\"\");"
                + " print(o); print({ a: 1 }); print(f); print(l); print([1, 2]); print(new (host(\"A\"))()); print(new"
                + " (host(\"Long_name\"))()); print(host(\"A\")); print(host(\"I\"));");
        Bench.due("all", bench.output(), "null\ntrue\nfalse\n0\n-1\n9223372036854775807\n-9223372036854775808\n10\n-1000\n4294967296\ntext\n\n{}\n{}\nfun\n[]\n[]\nA@5\nLong_name@6\nA\nI\n");
        StringBuilder many = new StringBuilder("i = 0; while (i < 1234) { o = {}; i = i + 1; } ");
        String thirty = "Z23456789_123456789_123456789_";
        bench = Bench.ran("class " + thirty + " { new (); }", many + "print(new (host(\"" + thirty
                + "\"))()); print(\"<\" + 1234 + \">\");");
        Bench.due("a long name and number", bench.output(), thirty + "@1234\n<1234>\n");
    }

    private static void pile() {
        Bench.about("term 4 and 9: what each instruction takes from the pile, and leaves on it");
        String[] all = {"-7", "2 -7 -1", "!7", "1 0 -1", "!null", "1 1 -1", "1 + 2", "2 3 -1", "5 - 2", "2 3 -1", "2 * 3", "2 6 -1",
                "7 / 2", "2 3 -1", "7 % 4", "2 3 -1", "1 == 1", "1 1 -1", "t != t", "1 0 -1", "1 < 2", "1 1 -1",
            "t <= \"z\"", "1 1 -1", "t > \"z\"", "1 0 -1", "t >= t", "1 1 -1", "t + 1", "3 5 -1", "null || 5", "2 5 -1", "4 || 5",
            "2 4 -1", "4 && 5", "2 5 -1", "null && 5", "0 0 -1", "g = 8", "2 8 -1", "o.a = 9", "2 9 -1",
            "o[\"b\"] = 9", "2 9 -1", "l[0] = 9", "2 9 -1", "o.a", "2 4 -1", "o[\"a\"]", "2 4 -1", "l.size", "2 1 -1", "l[0]", "2 6 -1",
            "t[0]", "3 1 -1", "t.sub(1, 3)", "3 2 -1", "l.push(3)", "2 2 -1", "l.pop()", "2 6 -1",
            "f(8, 9)", "2 8 -1", "f()", "0 0 -1", "o.m(5)", "2 5 -1", "print(1)", "0 0 -1", "proto(o)", "0 0 -1", "proto(make(o)) == o",
            "1 1 -1", "turn(o, null) == o", "1 1 -1", "has(o, \"a\")", "1 1 -1", "drop(o, \"a\")", "1 1 -1",
            "drop(o, \"z\")", "1 0 -1", "kind(1)", "3 3 -1", "make(null) == null", "1 0 -1", "new f(1) == null", "1 0 -1", "[] == 1",
            "1 0 -1", "[1, 2, 3].size", "2 3 -1", "{ q: 1, r: 2 }.r", "2 2 -1", "fun () { } == 1", "1 0 -1", "this", "0 0 -1",
            "host(\"A\") == host(\"A\")", "1 1 -1", "i.a", "2 0 -1", "i.a = 3", "2 3 -1", "i.m(1, 2)", "2 3 -1",
            "new (host(\"A\"))() == i", "1 0 -1", "A.s(7)", "2 10 -1", "A.q = 7", "2 7 -1", "A.q", "2 0 -1", "i.g", "2 5 -1", "i.h = 8",
            "2 8 -1"};
        for (int i = 0; i < all.length; i += 2) {
            // Members: a 0, m 1, new 2, s 3, q 4, getG 5, setH 6.
            Bench bench = new Bench();
            Bench.due("host()", bench.host("class A { int a; int m(int, int); new (); static int s(int); static int q; int getG(); void"
                    + " setH(int); }"), 0);
            bench.run(0, "A = host(\"A\"); i = new A(); l = [6]; t = \"text\"; fun f(x) { return x; } o = { a: 4, m: f }; i.m(0, 0);");
            bench.run(0, "return [11, 12, " + all[i] + ", 13];");
            int k = (int) bench.tongue.result(0, 1);
            String due = all[i + 1];
            if (all[i].startsWith("i.m")) {
                due = "2 4 -1";
            }
            Bench.due("[11, 12, " + all[i] + ", 13]", bench.properties(k), "2 11 -1, 2 12 -1, " + due + ", 2 13 -1");
        }
    }

    private static void parameters() {
        Bench.about("term 9: its VARIABLES (ES, null for the others; ES too many are left out)");
        String head = "fun f(a, b, c) { var d; return [a, b, c, d]; } fun z() { var d; return [d]; } fun show(x) { s = \"\"; i = 0;"
                + " while (i < x.size) { s = s + x[i] + \" \"; i = i + 1; } return s; } f(7, 7, 7); z(); o = { f: f }; fun N(a, b) {"
                + " this.a = a; this.b = b; } ";
        String[] wants = {"f()", "null null null null ", "f(1)", "1 null null null ", "f(1, 2)", "1 2 null null ", "f(1, 2, 3)",
                "1 2 3 null ", "f(1, 2, 3, 4)", "1 2 3 null ", "f(1, 2, 3, 4, 5, 6, 7, 8)", "1 2 3 null ", "z(1)", "null ",
            "o.f()", "null null null null ", "o.f(1, 2)", "1 2 null null ", "o.f(1, 2, 3, 4)", "1 2 3 null ",
            "[new N().a, new N(1).b, new N(1, 2).b, new N(1, 2, 3).b]", "null null 2 2 "};
        for (int i = 0; i < wants.length; i += 2) {
            Bench.due(wants[i], Bench.ran(head + "f(4, 5, 6); print(show(" + wants[i] + "));").output(), wants[i + 1] + "\n");
        }
        Bench bench = Bench.ran("fun f(a) { var b; return b; } i = 0; while (i < 100) { f(i); i = i + 1; }");
        bench.host("");
        bench.run(0, "fun g(a, b) { var c; return [a, b, c]; } return g();");
        Bench.due("null also where values of an old host lay", bench.properties(1), "0 0 -1, 0 0 -1, 0 0 -1");
    }

    private static void variables() {
        Bench.about("term 5: the VARIABLES of the calls around it that were when it was made (these live on)");
        Bench bench = Bench.ran("fun a(x) { var y = x; return [fun (v) { y = v; x = x + 1; }, fun () { return [x, y]; }]; } p = a(1); q"
                + " = a(10); p[0](5); q[0](6); p[0](7); r = p[1](); s = q[1](); print(r[0]); print(r[1]); print(s[0]); print(s[1]);");
        Bench.due("each call's own", bench.output(), "3\n7\n11\n6\n");
        bench = Bench.ran("fun a(x) { return fun (y) { return fun (z) { return fun (w) { x = x + 1; y = y + 10; z = z + 100; return x +"
                + " y + z + w; }; }; }; } k = a(1)(2)(3); print(k(0)); print(k(0)); print(a(0)(0)(0)(0));");
        Bench.due("up to three further out", bench.output(), "117\n228\n111\n");
        bench = Bench.ran("fun f(x) { try { throw 1; } catch (x) { } return fun () { return x; }; } print(f(5)()); fun g() { return g;"
                + " } print(g() == g); fun h() { fun h() { return 3; } return h(); } print(h());");
        Bench.due("names of catch and fun", bench.output(), "1\ntrue\n3\n");
        bench = Bench.ran("x = 1; fun f() { x = 2; var x; } f(); print(x); fun g() { return fun () { x = 3; }; } g()(); print(x);");
        Bench.due("or globals", bench.output(), "1\n3\n");
    }

    private static void returning() {
        Bench.about("term 9: a unit's function RETURNS: the task is DONE with that value; behind a function's last one null");
        Bench.due("from a block", Bench.ran("while (1) { if (1) { try { return 4; } catch (e) { } } }").end(0), "2 2 4");
        Bench.due("from none", Bench.ran("").end(0) + ", " + Bench.ran("5;").end(0) + ", " + Bench.ran("return;").end(0),
                "2 0 0, 2 0 0, 2 0 0");
        Bench.due("a fun's",
                Bench.ran("fun f() { 5; } fun g() { return; } fun h() { return g; } return [f(), g(), h()(), h() == g];").properties(3),
                "0 0 -1, 0 0 -1, 0 0 -1, 1 1 -1");
        Bench.due("values that lay there stay", Bench.ran("fun f() { [1, 2, 3].pop(); while (1) { return 9; } } return [1, f(), 2][1] +"
                + " [f()][0];").end(0), "2 2 18");
    }

    private static void tries() {
        Bench.about("term 9: TRY notes where to go on, END forgets the latest; RETURN those of its call");
        String[] wants = {"try { 1; } catch (e) { print(1); } throw 5;", "|3 2 5",
                "try { try { 1; } catch (e) { print(1); } throw 5; } catch (f) { print(f); }", "5 |2 0 0",
            "try { try { throw 1; } catch (e) { print(e); throw 2; } } catch (f) { print(f); throw 3; }", "1 2 |3 2 3",
            "try { try { 1; } catch (e) { print(1); } } catch (f) { print(f); } throw 4;", "|3 2 4",
            "i = 0; while (i < 3) { try { i = i + 1; } catch (e) { print(1); } } throw 6;", "|3 2 6",
            "i = 0; while (i < 3) { try { i = i + 1; throw i; } catch (e) { print(e); } } throw 6;", "1 2 3 |3 2 6",
            "fun f() { try { try { return 1; } catch (a) { print(2); } } catch (b) { print(3); } } try { f(); throw 7; } catch (c) {"
            + " print(c); }", "7 |2 0 0",
            "fun f() { try { g(); } catch (a) { print(a); } } fun g() { try { return 1; } catch (b) { print(b); } } f(); throw 8;",
            "|3 2 8", "fun f() { try { g(); throw 2; } catch (a) { print(a); } } fun g() { try { return 1; } catch (b) { print(9); } } f();",
            "2 |2 0 0",
            "fun f(n) { try { if (n == 0) { throw 1; } f(n - 1); } catch (e) { print(n + e); throw 10; } } try { f(3); } catch (e) {"
            + " print(e); }", "1 11 12 13 10 |2 0 0", "try { throw 1; } catch (e) { } try { throw 2; } catch (e) { print(e); }", "2 |2 0 0",
            "fun f() { throw 3; } try { 1 + [2, f()].size; } catch (e) { print(e); } print([4, 5].size);", "3 2 |2 0 0",
            "try { try { throw 1; } catch (e) { } throw 2; } catch (e) { print(e); }", "2 |2 0 0",
            "fun f() { try { throw 1; } catch (e) { return e + 1; } } print(f()); print(f()); throw f();", "2 2 |3 2 2",
            "o = { m: fun () { throw this; } }; try { o.m(); } catch (e) { print(e == o); }", "true |2 0 0",
            "fun F() { throw 4; } try { new F(); } catch (e) { print(e); }", "4 |2 0 0", "try { } catch (e) { } throw 1;", "|3 2 1"};
        for (int i = 0; i < wants.length; i += 2) {
            Bench bench = Bench.ran(wants[i]);
            Bench.due(wants[i], bench.output().replace('\n', ' ') + "|" + bench.end(0), wants[i + 1]);
        }
        StringBuilder deep = new StringBuilder();
        for (int i = 0; i < 45; i++) {
            deep.append("try { ");
        }
        deep.append("throw 0;");
        for (int i = 0; i < 45; i++) {
            deep.append(" } catch (e) { throw e + 1; }");
        }
        Bench.due("forty-five within one another", Bench.ran(deep.toString()).end(0), "3 2 45");
        Bench.due("in each of many calls", Bench.ran("fun f(n) { try { try { if (n == 0) { throw 0; } f(n - 1); } catch (a) { throw a +"
                + " 1; } } catch (b) { throw b + 1; } } f(150);").end(0), "3 2 302");
    }

    private static void triesOfTasks() {
        Bench.about("term 9: a task that is started has no TRY yet");
        Bench bench = new Bench();
        bench.compile("s = \"0123456789\"; fun f() { try { try { while (1) { s = s + s; } } catch (e) { print(1); } } catch (e) {"
                + " print(2); } } try { f(); } catch (e) { print(3); }");
        bench.compile("throw 9;");
        bench.compile("try { while (1) { } } catch (e) { print(e); }");
        bench.runUnit(0, 0);
        Bench.due("STOPPED in a TRY", bench.tongue.task(0, 0) + bench.output(), "4");
        bench.runUnit(0, 1);
        Bench.due("started anew", bench.end(0) + bench.output(), "3 2 9");
        bench.tongue.start(1, 2);
        bench.tongue.steps(1, 50);
        bench.runUnit(0, 1);
        Bench.due("the other one's TRY is none of it", bench.end(0) + bench.output() + bench.tongue.task(1, 0), "3 2 91");
        bench.host("");
        bench.compile("throw 8;");
        bench.runUnit(1, 0);
        Bench.due("behind a new host", bench.end(1), "3 2 8");
        Bench done = new Bench();
        done.compile("fun f() { try { return 1; } catch (e) { print(1); } } try { return f(); } catch (e) { print(2); }");
        done.compile("throw 9;");
        done.runUnit(0, 0);
        done.runUnit(0, 1);
        Bench.due("DONE in a TRY", done.end(0) + done.output(), "3 2 9");
    }

    private static void errorsGoOn() {
        Bench.about("term 9: THROW, and an ERROR (its number is the value), go on at the latest TRY of the latest call that has one,"
                + " with the values that lay there then");
        String[] wants = {"1 + null", "1", "1 / 0", "2", "null.a", "3", "o.a()", "4", "o()", "5", "l[0]", "6", "zz", "10", "make(1)", "12",
                "host(\"q\")", "12", "throw_()", "10"};
        for (int i = 0; i < wants.length; i += 2) {
            Bench.due("FAILED by " + wants[i], Bench.ran(HEAD + wants[i] + ";").end(0), "3 2 " + wants[i + 1]);
            Bench bench = Bench.ran(HEAD + "fun g(x) { try { [1, 2, " + wants[i]
                    + "]; } catch (e) { return [3, e, x]; } } return [4, g(5), 6][1];");
            Bench.due("caught " + wants[i], bench.properties((int) bench.tongue.result(0, 1)), "2 3 -1, 2 " + wants[i + 1] + " -1, 2 5 -1");
        }
        Bench.due("a global of the unit that has no value",
                Bench.ran("fun f() { return later; } try { f(); } catch (e) { print(e); } later = 1; print(f()); var never; try {"
                + " never; } catch (e) { print(e); }").output(), "10\n1\n10\n");
    }

    private static void twoHundredCalls() {
        Bench.about("term 9, ERROR 11: the 201st call within one another of a task");
        // The unit's own is the first one.
        String[] heads = {"fun f(n) { d = n; if (n == last) { return 7; } return f(n + 1); } ",
                "o = { f: fun (n) { d = n; if (n == last) { return 7; } return this.f(n + 1); } }; fun f(n) { return o.f(n); } ",
            "fun f(n) { d = n; if (n == last) { return { seven: 7 }; } return new f(n + 1); } "};
        for (int i = 0; i < heads.length; i++) {
            int most = i == 1 ? 198 : 199;
            String seven = i == 2 ? "return f(1).seven;" : "return f(1);";
            Bench bench = Bench.ran("last = " + most + "; " + heads[i] + seven);
            Bench.due("200 calls", bench.end(0) + " " + bench.tongue.count(11), "2 2 7 200");
            bench = Bench.ran("last = " + (most + 1) + "; " + heads[i] + seven);
            Bench.due("201 calls", bench.end(0) + " " + bench.tongue.count(11) + " " + bench.global("d"), "3 2 11 200 2 " + most);
            int things = bench.tongue.count(10);
            Bench.due("nothing made by it", things, i == 0 ? 1 : i == 1 ? 3 : 1 + 198);
        }
        Bench bench = new Bench();
        bench.compile("fun f(n) { if (n == 1) { while (1) { } } f(n - 1); } f(199);");
        bench.tongue.start(0, 0);
        for (int i = 0; i < 4; i++) {
            bench.tongue.steps(0, 1000);
        }
        Bench.due("task(0, 1)", bench.tongue.task(0, 1), 200);
        bench.tongue.start(1, 0);
        for (int i = 0; i < 4; i++) {
            bench.tongue.steps(1, 1000);
        }
        Bench.due("the other task has as many", bench.tongue.task(1, 1), 200);
        Bench.due("it can be caught",
                Bench.ran("fun f(n) { try { return f(n + 1); } catch (e) { return e * 1000 + n; } } return f(1);").end(0), "2 2 11199");
        bench = Bench.ran("fun a() { return 4; } fun r(n) { if (n == 0) { return a(); } return r(n - 1); } print(r(197)); try { r(198);"
                + " } catch (e) { print(e); }");
        Bench.due("the 200th and the 201st", bench.output(), "4\n11\n");
        Bench.due("what a site does until it calls", bench.site(bench.tongue.function(2, 4), 6, 9), "1 1 0 1");
    }

    private static void twoThousandValues() {
        Bench.about("term 9, ERROR 11: the 2001st value that lies on its pile (ahead of all else that the instruction does)");
        StringBuilder list = new StringBuilder("g = 1; return [0");
        for (int i = 1; i < 1999; i++) {
            list.append(",0");
        }
        String[] ones = {"1", "null", "\"t\"", "g", "zz", "this", "[]", "{}", "fun () { }", "-1", "!1"};
        for (String one : ones) {
            Bench last = Bench.ran(list + ", " + one + "];");
            Bench.due("the 2000th, " + one, last.end(0).startsWith("2 6") || one.equals("zz") && last.end(0).equals("3 2 10"), true);
            Bench beyond = Bench.ran(list + ", 0, " + one + "];");
            Bench.due("the 2001st, " + one, beyond.end(0), "3 2 11");
            Bench.due("nothing is made by it, " + one, beyond.tongue.count(10), 0);
        }
        String fun = list.toString().replace("g = 1; return", "fun f(v) { var w = 1; return") + "X]; } return f(1).size;";
        Bench.due("the 2000th, of a variable", Bench.ran(fun.replace("X", ", v")).end(0), "2 2 2000");
        Bench.due("the 2001st, of a variable", Bench.ran(fun.replace("X", ", 0, v")).end(0), "3 2 11");
        Bench.due("a value of the calls around, too", Bench.ran(fun.replace("X", "").replace("f(1).size", "[1, f(1).size][1]")).end(0),
                "2 2 1999");
        Bench.due("one more of the calls around", Bench.ran(fun.replace("X", "").replace("f(1).size", "[1, 2, f(1).size][1]")).end(0),
                "3 2 11");
        Bench.due("a DUP", Bench.ran(list + ", { a: 1 }];").end(0), "3 2 11");
        Bench.due("steps up to the DUP", new Bench().run(0, list + ", { a: 1 }];"), 3 + 1999 + 2);
        Bench.due("|| and && take none more", Bench.ran(list + ", 0 && g && 1 && null || false || 4];").end(0), "2 6 0");
        Bench.due("no DUP", Bench.ran(list + ", {}];").end(0), "2 6 1");
        Bench.due("what takes as many goes", Bench.ran(list.toString().replace("[0,0",
                "[[], 0 + 0, -1, [].size, kind(1), print(1), 1 == 2") + "];").tongue.task(0, 0), 3);
        Bench full = Bench.ran("l = [3]; " + list + ", l[0]];");
        Bench.due("an element needs one more", full.end(0), "3 2 11");
        full = Bench.ran("l = { a: 3 }; " + list + ", l.a];");
        Bench.due("a property does not", full.end(0), "2 6 1");
        full = Bench.ran("fun f() { return 4; } " + list + ", f()];");
        Bench.due("a call does not", full.end(0) + " " + full.tongue.property(1, 1999, 1), "2 6 1 4");
        full = Bench.ran("fun f() { try { return zz; } catch (e) { return e; } } " + list + ", f()];");
        Bench.due("it goes on in the call", full.end(0) + " " + full.tongue.property(1, 1999, 1), "2 6 1 10");
        Bench.due("of each task", twoPiles(list.substring(14) + ", X]; "), "1999 1999");
    }

    /** Two tasks whose piles both have come near their end. */
    private static String twoPiles(String list) {
        Bench bench = new Bench();
        bench.compile("fun w() { while (1) { } } x = [0" + list.replace("X", "w()").substring(1));
        for (int t = 0; t < 2; t++) {
            bench.tongue.start(t, 0);
            for (int i = 0; i < 3; i++) {
                bench.tongue.steps(t, 1000);
            }
        }
        return bench.tongue.task(0, 2) + " " + bench.tongue.task(1, 2);
    }

    private static void builtins() {
        Bench.about("term 9, ERROR 12");
        String[] values = {"null", "true", "1", "t", "o", "f", "l", "A", "i"};
        for (int v = 0; v < values.length; v++) {
            boolean holder = v == 4 || v == 5;
            String[] calls = {"make(V)", holder || v == 0 ? "" : "12", "proto(V)", holder ? "" : "12", "turn(V, null)", holder ? "" : "12",
                    "turn(p, V)", holder || v == 0 ? "" : "12", "drop(V, \"a\")", holder ? "" : "12",
                "drop(p, V)", v == 3 ? "" : "12", "has(V, \"a\")", holder ? "" : "12", "has(p, V)", v == 3 ? "" : "12", "host(V)", "12",
                "kind(V)", "", "print(V)", ""};
            for (int k = 0; k < calls.length; k += 2) {
                Bench bench = Bench.ran("class A { new (); }", HEAD + "A = host(\"A\"); i = new A(); p = {}; " + calls[k].replace("V",
                        values[v]) + ";");
                Bench.due(calls[k].replace("V", values[v]), bench.end(0), calls[k + 1].isEmpty() ? "2 0 0" : "3 2 12");
            }
        }
        Bench.about("term 9: host: no text that is the name of a class or an interface; drop, has: one of any length is let, and"
                + " becomes no NAME");
        String sixty = "0123456789".repeat(6);
        String[] hosts = {"\"A\"", "A", "\"II\"", "II", "\"\" + \"A\"", "A", "\"\"", "e12", "\"a\"", "e12", "\"AA\"", "e12", "\"I\"",
                "e12", "\"A \"", "e12", "\"int\"", "e12", "\"Any\"", "e12", "\"class\"", "e12", "\"m\"", "e12", "s", "e12", "s + s", "e12",
            "host(\"A\")", "e12", "\"III\".sub(0, 2)", "II"};
        for (int i = 0; i < hosts.length; i += 2) {
            Bench bench = Bench.ran("class A { int m(); } interface II { }", "s = \"" + sixty + "\"; try { print(host(" + hosts[i]
                    + ")); } catch (e) { print(\"e\" + e); }");
            Bench.due("host(" + hosts[i] + ")", bench.output(), hosts[i + 1] + "\n");
        }
        Bench bench = Bench.ran("s = \"" + sixty + "\"; o = { known: 1 }; o[s] = 2; p = make(o); print(has(o, \"\")); print(has(o, s +"
                + " s)); print(has(p, s)); print(has(o, \"p\")); print(has(o, \"unknown\")); print(has(p, \"known\"));"
                + " print(drop(p, s)); print(drop(o, \"\")); print(drop(o, s + s)); print(drop(o, \"p\")); print(drop(o, \"unknown\"));"
                + " print(drop(o, s)); print(has(p, s));");
        Bench.due("has and drop", bench.output().replace("\n", " "),
                "false false true false false true false false false false false true false ");
        Bench.due("no NAME", bench.tongue.count(8), 5);
        bench = Bench.ran("s = \"" + sixty + "\"; o = {}; o[\"var\"] = 1; print(has(o, s + 1)); print(drop(o, s + 1)); print(has(o,"
                + " \"var\")); print(drop(o, \"var\"));");
        Bench.due("one too long is like no other", bench.output(), "false\nfalse\ntrue\ntrue\n");
        bench = Bench.ran("o = { o: 1, p: 2 }; print(has(o, \"o\")); print(drop(o, \"o\")); print(has(o, \"o\")); print(drop(o, \"o\"));"
                + " print(has(o, \"p\"));");
        Bench.due("of the first NAME", bench.output(), "true\ntrue\nfalse\nfalse\ntrue\n");
        bench = Bench.ran("class var { } class A { }", "try { print(host(3)); } catch (e) { print(e); } print(host(\"var\"));");
        Bench.due("a number is no text", bench.output(), "12\nvar\n");
        // The unit has no NAME ahead of proto; an object that a fun has made is the fun's prototype.
        bench = Bench.ran("return proto(new (turn(fun () { }, new (fun () { this[\"proto\"] = {}; })()))());");
        Bench.due("proto as the first NAME", bench.end(0).substring(0, 3) + " " + bench.name(0), "2 4 proto");
        Bench.due("no proto", Bench.ran("return proto(new (turn(fun () { }, new (fun () { })()))());").end(0), "2 0 0");
        Bench.about("term 9: kind");
        bench = Bench.ran("class A { new (); }", HEAD + "v = [null, true, false, 1, b, t, o, f, l, new (host(\"A\"))(), host(\"A\")]; i"
                + " = 0; while (i < v.size) { print(kind(v[i])); i = i + 1; }");
        Bench.due("all", bench.output().replace('\n', ' '), "null bool bool int long text object fun list host class ");
    }

    private static void twoTasks() {
        Bench.about("term 9: TASKS 0 and 1, a STEP does one instruction of one task");
        Bench bench = new Bench();
        bench.compile("i = 0; fun f(n) { var k = n; while (k > 0) { k = k - 1; i = i + 1; } return n; } return f(10) + f(20);");
        bench.compile("fun g(n) { if (n == 0) { return 0; } return 1 + g(n - 1); } return g(30);");
        bench.tongue.start(0, 0);
        bench.tongue.start(1, 1);
        for (int k = 0; k < 400 && (bench.tongue.task(0, 0) == 1 || bench.tongue.task(1, 0) == 1); k++) {
            int t = bench.tongue.task(k % 2, 0) == 1 ? k % 2 : 1 - k % 2;
            bench.tongue.steps(t, 7 + k % 5);
        }
        Bench.due("in turns", bench.end(0) + ", " + bench.end(1) + ", " + bench.global("i"), "2 2 30, 2 2 30, 2 30");
        bench.compile("return f(3);");
        bench.tongue.start(0, 2);
        bench.tongue.start(1, 2);
        while (bench.tongue.task(0, 0) == 1) {
            bench.tongue.steps(0, 1);
            bench.tongue.steps(1, 1);
        }
        Bench.due("the same unit in both", bench.end(0) + ", " + bench.end(1), "2 2 3, 2 2 3");
    }
}
