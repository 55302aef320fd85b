/** Promise 7 and term 3, sentence by sentence: what a unit may be, and what is refused. */
public final class SourceEdgesTest {
    private static final String[] BUILTINS = {"print", "make", "proto", "turn", "drop", "has", "kind", "host"};
    private static final int[] WANTS = {1, 1, 1, 2, 2, 2, 1, 1};
    private static final String[] KEYWORDS = ("var fun if else while return throw try catch new this null true false"
            + " print make proto turn drop has kind host").split(" ");

    public static void main(String[] args) {
        emptyOnes();
        everyBeginning();
        keywordsAsNames();
        statements();
        makers();
        targets();
        parametersToldTwice();
        fiftyWithinOneAnother();
        endsOfHolding();
        builtins();
        ninths();
        ninthsAndDepth();
        functions();
        functionsFull();
        variables();
        sites();
        names();
        seventeenth();
        refusedLeavesNothing();
        Bench.end();
    }

    private static void fault(String text, int kind, int place) {
        Bench bench = new Bench();
        String before = bench.all();
        Bench.due("fault of " + text, bench.fault(text), kind + 16 * place);
        Bench.due("nothing is changed by " + text, bench.all(), before);
    }

    /** A fault at the place that a ` marks in the text. */
    private static void marked(int kind, String text) {
        int place = text.indexOf('`');
        fault(text.substring(0, place) + text.substring(place + 1), kind, place);
    }

    private static void taken(String text) {
        Bench.due("fault of " + text, new Bench().fault(text.replace("`", "")), -1);
    }

    private static void emptyOnes() {
        Bench.about("term 3: nothing, or names, e or N : e with commas");
        taken("");
        taken("fun f() { }");
        taken("x = fun () { };");
        taken("if (a) { } else { } while (a) { } try { } catch (e) { }");
        taken("f(); a.f(); new f(); x = []; x = {};");
        taken("return;");
        taken("var a;");
        marked(1, "`;");
        marked(1, "a;`;");
        marked(1, "fun f(`,) { }");
        marked(1, "fun f(a, `) { }");
        marked(1, "f(`,);");
        marked(1, "f(a, `);");
        marked(1, "x = [`,];");
        marked(1, "x = [a, `];");
        marked(1, "x = {`, };");
        marked(1, "x = { a: 1, `};");
        marked(1, "x = { a`};");
        marked(1, "x = { a: `};");
        marked(1, "a[`];");
        marked(1, "(`);");
        marked(1, "throw `;");
        marked(1, "if (`) { }");
        marked(1, "while (`) { }");
        marked(1, "try { } catch (`) { }");
        Bench bench = new Bench();
        bench.compile("");
        Bench.due("an empty unit", bench.function(0) + ": " + bench.code(0), "0 0 0 2 0 0: 0 0 0; 29 0 0");
    }

    /** A text's tokens up to each of them: a unit where a | stands, else its end is where more must come. */
    private static void everyBeginning() {
        Bench.about("term 1: the text's end where more must come");
        String all = "| var a ; | var b = 1 + 2 * - 3 ; | fun f ( a , b ) { return a . c ( b ) [ 1 ] ; } | if ( a < b ) { } | else if ("
                + " b ) { x = [ 1 , \"t\" ] ; }"
                + " | else { } | while ( a && ! b || null ) { throw { a : 1 , b : this } ; } | try { f ( ) ; } catch ( e ) { print ( e ) ; }"
                + " | a . b [ c ] = d = new f . g [ 1 ] ( 2 , 3 ) . h ; | return fun ( ) { return ; } ; |";
        everyBeginning(all, false);
        everyBeginning("| class A { } | interface I { void m ( ) ; Text n ( int , A ... ) ; } | class B : A , I { int a ; static Any b"
                + " ; new ( B ) ; } |", true);
    }

    private static void everyBeginning(String all, boolean ofHost) {
        String[] tokens = all.split(" ");
        StringBuilder text = new StringBuilder();
        for (int i = 0; i < tokens.length; i++) {
            if (!tokens[i].equals("|")) {
                text.append(tokens[i]).append(' ');
                boolean isWhole = tokens[i + 1].equals("|");
                int due = isWhole ? 0 : 1 + 16 * text.length();
                Bench.due("of " + text, ofHost ? new Bench().host(text.toString()) : Math.max(0, new Bench().fault(text.toString())), due);
            }
        }
    }

    private static void keywordsAsNames() {
        Bench.about("term 3: KEYWORDS, no names");
        for (String word : KEYWORDS) {
            marked(1, "var `" + word + ";");
            marked(1, "fun `" + word + "() { }");
            marked(1, "fun f(`" + word + ") { }");
            marked(1, "x.`" + word + ";");
            marked(1, "x.`" + word + "();");
            marked(1, "x = { `" + word + ": 1 };");
            marked(1, "try { } catch (`" + word + ") { }");
            marked(1, "new a.`" + word + "();");
        }
        for (String word : "class interface static int Int Text proto_ size push pop sub bool object list then".split(" ")) {
            taken("var " + word + "; fun " + word + "(" + word + ") { } x." + word + "; x = { " + word + ": " + word + " };");
        }
    }

    private static void statements() {
        Bench.about("term 3: e ; (which does not begin with { or fun)");
        marked(1, "`{ };");
        marked(1, "`{ a: 1 }.a;");
        marked(1, "fun `() { }();");
        marked(1, "if (a) { `{ } }");
        taken("({ }); (fun () { })(); -{ }; !fun () { }; [{ }]; x = fun () { }; x = { };");
        Bench.about("term 3: statements");
        marked(1, "`}");
        marked(1, "`else { }");
        marked(1, "`catch (e) { }");
        marked(1, "if (a) { } else `while (b) { }");
        marked(1, "if (a) { } else { } `else { }");
        marked(1, "if (a) { } else if (b) { } else { } `else { }");
        marked(1, "if (a) `a;");
        marked(1, "while (a) `a;");
        marked(1, "try { } `a;");
        marked(1, "try `a;");
        marked(1, "try { } catch (e) { } `catch (f) { }");
        marked(1, "return `var a;");
        marked(1, "a `b;");
        marked(1, "var a`, b;");
        marked(1, "var a `== 1;");
        marked(1, "var a`.b = 1;");
        marked(1, "fun f `{ }");
        marked(1, "fun f() `a;");
        marked(1, "(a `b);");
        marked(1, "a.`(1);");
        marked(1, "a.`1;");
        marked(1, "a + `;");
        marked(1, "a `! b;");
        marked(1, "a * `* b;");
        taken("if (a) { } if (b) { } else if (c) { } else if (d) { } else { } return return_; return -a;");
    }

    private static void makers() {
        Bench.about("term 3: MAKER = first (but new ..), and any number of . N and [ e ]");
        taken("new a(); new a.b(); new a[1](); new a.b[c].d[e](1); new (new a())(); new this(); new null(); new 1(); new \"t\"();");
        taken("new [a][0](); new { a: b }.a(); new fun () { }(); new print(1)(); new host(\"A\")(); new a()(); new a().b(); new (a())();");
        marked(1, "new `new a()();");
        marked(1, "new `-a();");
        marked(1, "new `!a();");
        marked(1, "new a`;");
        marked(1, "new a.b`;");
        marked(1, "new a[1]`;");
        marked(1, "new a `= 1;");
        marked(1, "new a `+ b();");
        marked(1, "new `;");
    }

    private static void targets() {
        Bench.about("term 3, fault 2: an = behind what is no TARGET");
        String[] none = {"1", "\"t\"", "this", "null", "true", "false", "(a)", "(a.b)", "(a[1])", "((a))", "[a]", "[a, b]", "fun () { }",
                "print(a)",
            "kind(a)", "a()", "a.b()", "a[1]()", "a.b.c(1)", "new a()", "new a.b()", "-a", "!a", "-a.b", "!a[1]", "--a", "a + b",
            "a * b.c", "a < b",
            "a == b", "a != b.c", "a && b", "a || b[1]", "a - b", "a = 1", "a = b.c()", "a.b = (c)", "a % -b", "(a = b)"};
        for (String one : none) {
            marked(2, "return " + one + " `= 1;");
            marked(2, "f([" + one + " `= 1]);");
        }
        taken("a = 1; a.b = 1; a[1] = 1; a().b = 1; a()[1] = 1; (a).b = 1; (a)[1] = 1; new a().b = 1; new a()[1] = 1; \"t\".b = 1;"
                + " this.a = 1; this[1] = 1;");
        taken("null.a = 1; [a][0] = 1; print(1).a = 1; a = b = 1; a = b.c = d[1] = 1; a.b.c = 1; a[b = 1] = 1; (fun () { }).a = 1; x ="
                + " { a: b = 1 };");
        taken("return a = 1; throw a.b = 1; if (a = 1) { } while (a[1] = null) { } var a = b = 1; print(a = 1); f(a = 1, b = 2); 1 + (a"
                + " = 1);");
    }

    private static void parametersToldTwice() {
        Bench.about("term 3, fault 3: a parameter's name told twice");
        marked(3, "fun f(a, `a) { }");
        marked(3, "fun f(a, b, c, d, e, g, h, `a) { }");
        marked(3, "fun f(a, b, `b, a) { }");
        marked(3, "x = fun (a, `a) { };");
        marked(3, "fun f() { return fun (a, b, `a) { }; }");
        taken("fun f(f) { } fun g(a) { fun a(a) { } var a; } fun h(a) { return fun (a) { }; }");
    }

    private static String blocks(int n, String inside) {
        return Bench.times("if (1) {", n) + inside + Bench.times("}", n);
    }

    private static void fiftyWithinOneAnother() {
        Bench.about("term 3, fault 4: what would be the 51st of these within one another");
        // In each of these a ` marks the first that holds, and nothing in it holds in turn.
        String[] all = {"if `(a) { }", "while `(a) { }", "try `{ } catch (e) { }", "fun f`() { }", "fun f`(a, b) { }",
                "return fun `() { };", "`(a);",
            "1 + `(a);", "return `[];", "return `[1, 2];", "return `{};", "return `{ b: 1 };", "throw `{ b: 1, c: 2 };", "a`[1];",
            "a.b`[1];", "a`[1] = 1;",
            "a`();", "a`(1);", "a.b`();", "a.b`(1, 2);", "new a`();", "new a.b`(1);", "new a`[1]();", "print`(1);", "turn`(1, 2);",
            "a `= 1;", "a.b `= 1;",
            "`-1;", "`!1;", "1 + `-1;", "1 && `!1;", "a || b * `-c;", "var x = `[];", "var x = `-1;", "var x = y `= 1;", "return `-1;"};
        for (String one : all) {
            taken(blocks(49, one));
            marked(4, blocks(50, one));
        }
        taken(blocks(50, "a; var b = 1; return; return a.b.c; throw 1 + a * 2; var c; \"t\";"));
        taken(Bench.times("a = ", 50) + "1;");
        marked(4, Bench.times("a = ", 50) + "a `= 1;");
        taken("var b = " + Bench.times("a = ", 50) + "1;");
        taken(Bench.times("-!", 25) + "1;");
        marked(4, Bench.times("-!", 25) + "`-1;");
        marked(4, Bench.times("!-", 25) + "`(1);");
        marked(4, Bench.times("!-", 25) + "a`[1];");
        marked(4, Bench.times("!-", 25) + "a`(1);");
        marked(4, Bench.times("!-", 25) + "a.b`(1);");
        marked(4, Bench.times("!-", 25) + "new a`(1);");
        marked(4, Bench.times("!-", 25) + "print`(1);");
        marked(4, Bench.times("!-", 25) + "fun `() { };");
        marked(4, Bench.times("!-", 25) + "`[1];");
        marked(4, Bench.times("!-", 25) + "`{ };");
        taken(Bench.times("a[", 50) + "1" + Bench.times("]", 50) + ";");
        marked(4, Bench.times("a[", 50) + "a`[1" + Bench.times("]", 51) + ";");
        taken(Bench.times("f(", 50) + "1" + Bench.times(")", 50) + ";");
        marked(4, Bench.times("f(", 50) + "f`(1" + Bench.times(")", 51) + ";");
        taken(Bench.times("a.f(", 50) + "1" + Bench.times(")", 50) + ";");
        marked(4, Bench.times("a.f(", 50) + "a.f`(1" + Bench.times(")", 51) + ";");
        taken(Bench.times("new f(", 50) + "1" + Bench.times(")", 50) + ";");
        marked(4, Bench.times("new f(", 50) + "new f`(1" + Bench.times(")", 51) + ";");
        taken(Bench.times("kind(", 50) + "1" + Bench.times(")", 50) + ";");
        marked(4, Bench.times("kind(", 50) + "kind`(1" + Bench.times(")", 51) + ";");
        taken("return " + Bench.times("[", 50) + Bench.times("]", 50) + ";");
        marked(4, "return " + Bench.times("[", 50) + "`[" + Bench.times("]", 51) + ";");
        taken("return " + Bench.times("{ a: ", 50) + "1" + Bench.times("}", 50) + ";");
        marked(4, "return " + Bench.times("{ a: ", 50) + "`{" + Bench.times("}", 51) + ";");
        taken(Bench.times("fun f() {", 50) + Bench.times("}", 50));
        marked(4, Bench.times("fun f() {", 50) + "fun f`() {" + Bench.times("}", 51));
        taken(Bench.times("return fun () {", 50) + Bench.times("};", 50));
        marked(4, Bench.times("return fun () {", 50) + "return fun `() {" + Bench.times("};", 51));
        taken(Bench.times("while (1) {", 50) + Bench.times("}", 50));
        marked(4, Bench.times("while (1) {", 50) + "while `(1) {" + Bench.times("}", 51));
        taken(Bench.times("try {", 50) + Bench.times("} catch (e) { }", 50));
        marked(4, Bench.times("try {", 50) + "try `{" + Bench.times("} catch (e) { }", 51));
        taken(Bench.times("try { } catch (e) {", 50) + Bench.times("}", 50));
        marked(4, Bench.times("try { } catch (e) {", 50) + "try `{ } catch (e) {" + Bench.times("}", 51));
        taken(Bench.times("if (1) { } else {", 50) + Bench.times("}", 50));
        marked(4, Bench.times("if (1) { } else {", 50) + "if `(1) { } else {" + Bench.times("}", 51));
        taken("if " + Bench.times("(", 50) + "1" + Bench.times(")", 50) + " { }");
        marked(4, "if " + Bench.times("(", 50) + "`(1" + Bench.times(")", 51) + " { }");
        taken("while (" + Bench.times("[", 49) + Bench.times("]", 49) + ") { }");
        marked(4, "while (" + Bench.times("[", 49) + "`[" + Bench.times("]", 50) + ") { }");
    }

    private static void endsOfHolding() {
        Bench.about("term 3, fault 4: each holds what stands behind it, up to its end");
        taken(blocks(49, "(a); (a) + (b); a[1][2](3).b(4); -1 - -1 - !1; a = 1; b = 2; [1]; [2];"));
        taken(blocks(49, "f(1, 2)(3)[4]; new f(1)(2); if (a) { } else if (b) { } else { } try { } catch (e) { }"));
        taken(blocks(48, "a = -1 + -2 * (3) - [4]; f(-1, [2], (3)); return { a: -1, b: [2], c: (3) }; a[-1] = (2); f(a = 1, b = 2);"));
        // A - in front holds what is behind it alone, an = all that follows.
        taken(Bench.times("-", 50) + "a + (b) * [c];");
        taken(Bench.times("-", 50) + "1 + " + Bench.times("-", 50) + "1;");
        taken(Bench.times("-", 50) + "a.b.c;");
        marked(4, Bench.times("a = ", 49) + "1 + (`(2));");
        marked(4, Bench.times("a = ", 50) + "1 + `-2;");
        taken(Bench.times("a = ", 49) + "1 + (2) + -3;");
        taken(Bench.times("(a = 1);", 60));
        taken("[" + Bench.times("a = 1, ", 60) + "1];");
        taken("f(a = 1, b = 2, c = " + Bench.times("(", 48) + "3" + Bench.times(")", 48) + ");");
        marked(4, "f(a = 1, b = 2, c = " + Bench.times("(", 48) + "`(3" + Bench.times(")", 49) + ");");
    }

    private static void builtins() {
        Bench.about("term 3, fault 5: a builtin with another number of ES than it wants");
        for (int b = 0; b < BUILTINS.length; b++) {
            StringBuilder text = new StringBuilder(BUILTINS[b]).append('(');
            for (int es = 0; es <= 8; es++) {
                if (es == WANTS[b]) {
                    taken(text + ");");
                } else {
                    marked(5, text + "`);");
                }
                text.append(es == 0 ? "" : ", ").append(es);
            }
            marked(1, BUILTINS[b] + "`;");
            marked(1, BUILTINS[b] + "(1, `);");
        }
        marked(5, "f(print(`));");
    }

    private static void ninths() {
        Bench.about("term 3, fault 6: a ninth parameter, or a ninth of the ES in ( )");
        taken("fun f(a, b, c, d, e, f, g, h) { f(1, 2, 3, 4, 5, 6, 7, 8); a.f(1, 2, 3, 4, 5, 6, 7, 8); new f(1, 2, 3, 4, 5, 6, 7, 8); }");
        taken("x = fun (a, b, c, d, e, f, g, h) { return [1, 2, 3, 4, 5, 6, 7, 8, 9, 10]; };");
        taken("x = { a: 1, b: 2, c: 3, d: 4, e: 5, f: 6, g: 7, h: 8, i: 9, j: 10 };");
        marked(6, "fun f(a, b, c, d, e, f, g, h, `i) { }");
        marked(6, "x = fun (a, b, c, d, e, f, g, h, `i, j) { };");
        marked(3, "fun f(a, b, c, d, e, f, g, h, `h) { }");
        marked(1, "fun f(a, b, c, d, e, f, g, h, `1) { }");
        marked(1, "fun f(a, b, c, d, e, f, g, h, `) { }");
        String[] begins = {"1", "\"t\"", "a", "this", "null", "true", "false", "(1)", "fun () { }", "[1]", "{ }", "print(1)", "host(1)",
                "new f()", "-1", "!1",
            "a = 1", "1 = 2", "fun f", "new 7", "print", "a b"};
        String[] heads = {"f", "a.f", "new f", "print", "turn", "f()"};
        for (String head : heads) {
            for (String one : begins) {
                marked(6, head + "(1, 2, 3, 4, 5, 6, 7, 8, `" + one + ");");
            }
            for (String one : new String[] {")", ";", ",", "]", "}", ":", "=", "==", "+", "*", "&&", ".", "var", "if", "else", "return",
                    "catch", "#", "\"", "31415926535"}) {
                marked(1, head + "(1, 2, 3, 4, 5, 6, 7, 8, `" + one + " 9);");
            }
        }
    }

    private static void ninthsAndDepth() {
        Bench.about("term 3: a ninth that would be the 51st within one another, too");
        for (String one : new String[] {"(9)", "[9]", "{ }", "-9", "!9"}) {
            marked(4, blocks(49, "f(1, 2, 3, 4, 5, 6, 7, 8, `" + one + ");"));
            marked(6, blocks(48, "f(1, 2, 3, 4, 5, 6, 7, 8, `" + one + ");"));
            marked(4, blocks(49, "new f(1, 2, 3, 4, 5, 6, 7, 8, `" + one + ");"));
            marked(4, blocks(49, "a.f(1, 2, 3, 4, 5, 6, 7, 8, `" + one + ");"));
            marked(4, blocks(49, "turn(1, 2, 3, 4, 5, 6, 7, 8, `" + one + ");"));
        }
        for (String one : new String[] {"9", "\"t\"", "a", "this", "fun () { }", "print(1)", "new f()", "a = 1"}) {
            marked(6, blocks(49, "f(1, 2, 3, 4, 5, 6, 7, 8, `" + one + ");"));
        }
        marked(1, blocks(49, "f(1, 2, 3, 4, 5, 6, 7, 8, `);"));
    }

    private static void functions() {
        Bench.about("term 3, fault 7: more than 400 FUNCTIONS (at fun; the unit's own at its first token)");
        Bench bench = new Bench();
        String most = "x = [" + Bench.times("fun(){},", 398);
        marked(7, most + "fun(){},`fun(){}];");
        marked(7, most + "fun(){}]; `fun f() { }");
        Bench.due("399 and the unit's own", bench.compile(most + "fun(){}];"), 0);
        Bench.due("count(4)", bench.tongue.count(4), 400);
        Bench.due("the last", bench.function(399) + ", " + bench.function(400), "0 0 0 2 0 0, -1 -1 -1 -1 -1 -1");
        bench = new Bench();
        bench.compile("fun a() { } fun b() { }");
        Bench.due("through all units", bench.compile("x = [" + Bench.times("fun(){},", 395) + "fun(){}];"), 1);
        Bench.due("count(4)", bench.tongue.count(4), 400);
        bench = new Bench();
        bench.compile("fun a() { } fun b() { }");
        String text = "x = [" + Bench.times("fun(){},", 396);
        Bench.due("one too many", bench.fault(text + "fun(){}];"), 7 + 16 * text.length());
        Bench.due("the unit's own is the last", bench.compile("x = [" + Bench.times("fun(){},", 394) + "fun(){}];") + " "
                + bench.compile("a;") + " " + bench.fault("a;"), "1 2 " + 7);
    }

    private static void functionsFull() {
        Bench.about("term 3, fault 7: the unit's own at its first token, of which the least fault counts");
        Bench bench = new Bench();
        bench.compile("x = [" + Bench.times("fun(){},", 398) + "fun(){}];");
        String before = bench.counts();
        String[] begin = {"var a;", "if (a) { }", "while (a) { }", "return;", "throw a;", "try { } catch (e) { }", "fun f() { }",
                "new a();", "this;", "null;", "true;",
            "false;", "print(1);", "make(1);", "host(1);", "a;", "newname;", "\"t\";", "7;", "(1);", "[1];", "-1;", "!1;", "", "// a", "\n",
            "var 7;", "fun 7", "a b", "1 = 2", "print();"};
        for (String one : begin) {
            int first = one.equals("// a") ? 4 : one.equals("\n") ? 1 : 0;
            Bench.due("full, " + one, bench.fault(one), 7 + 16 * first);
            Bench.due("full, behind blanks " + one, bench.fault("  \n" + one), 7 + 16 * (3 + first));
        }
        for (String one : new String[] {"}", ")", "]", "{", "{ };", ";", ",", ".", ":", "=", "==", "<", "+", "*", "/ /", "%", "&&", "else",
                "catch", "#", "\"", "99999999999"}) {
            Bench.due("full, " + one, bench.fault(one), 1);
            Bench.due("full, behind blanks " + one, bench.fault("  \n" + one), 1 + 16 * 3);
        }
        Bench.due("nothing is left of them", bench.counts(), before);
    }

    private static void variables() {
        Bench.about("term 3, fault 7: 60 VARIABLES of a function (at the name)");
        StringBuilder some = new StringBuilder();
        for (int i = 0; i < 59; i++) {
            some.append("var v").append(i).append(';');
        }
        String[] heads = {"fun f() {", "return fun () {"};
        for (String head : heads) {
            String tail = head.startsWith("fun") ? "}" : "};";
            taken(head + some + "var x;" + tail);
            taken(head + some + "fun x() { }" + tail);
            taken(head + some + "try { } catch (x) { }" + tail);
            taken(head + some + "var x; var v3; fun v4() { } try { } catch (v5) { } var x = 1;" + tail);
            taken(head + some + "var x; y; y = 1; x.y = 1;" + tail);
            taken(head + some + "var x; return fun (a) { var y; var z; };" + tail);
            taken(head + some + "fun x(a, b) { var y; var z; }" + tail);
            marked(7, head + some + "var x; var `y;" + tail);
            marked(7, head + some + "var x; var `y = 1;" + tail);
            marked(7, head + some + "var x; fun `y() { }" + tail);
            marked(7, head + some + "var x; try { } catch (`y) { }" + tail);
            marked(7, head + some + "fun x() { } if (1) { while (1) { var `y; } }" + tail);
            marked(1, head + some + "var x; var `7;" + tail);
            marked(1, head + some + "var x; var `999;" + tail);
            marked(1, head + some + "var x; fun `999() { }" + tail);
            marked(1, head + some + "var x; try { } catch (`999) { }" + tail);
        }
        String four = some.toString().replace("var v0;var v1;var v2;var v3;", "");
        taken("fun f(a, b, c, d) {" + four + "var x; var a; }");
        marked(7, "fun f(a, b, c, d) {" + four + "var x; var `y; }");
        taken(some + "var x; var y; var z; fun w() { }");
        Bench bench = new Bench();
        bench.compile("fun f() {" + some + "var x; }");
        Bench.due("of f", bench.tongue.function(1, 2), 60);
    }

    /** A statement of so many sites, and of just two signs for each one. */
    private static String reads(int sites) {
        return "a" + Bench.times(".b", sites) + ";";
    }

    private static void sites() {
        Bench.about("term 3, fault 7: more than 4000 SITES in all (at the text's end)");
        String[] ones = {"a.b;", "a[1];", "a();", "a.b();", "new a();", "a.b=1;", "a[1]=2;", "x={b:1};", "a[1]=b[2]=3;", "fun f(){a.b();}"};
        for (String one : ones) {
            int of = one.equals("a[1]=b[2]=3;") ? 2 : 1;
            String more = reads(4001 - of) + one;
            Bench.due("4001 with " + one, new Bench().fault(more), 7 + 16 * more.length());
            Bench bench = new Bench();
            Bench.due("4000 with " + one, bench.compile(reads(4000 - of) + one) + " " + bench.tongue.count(6), "0 4000");
            Bench.due("one more", bench.fault("a();"), 7 + 16 * 4);
            Bench.due("one more and another fault", bench.fault("a() )"), 1 + 16 * 4);
            Bench.due("of none", bench.compile("a;"), 1);
        }
        Bench bench = new Bench();
        Bench.due("through all units", bench.compile(reads(2500)) + " " + bench.compile(reads(1499)), "0 1");
        Bench.due("one too many, and blanks", bench.fault("a.b.b; \n"), 7 + 16 * 8);
        Bench.due("none of it is left", bench.tongue.count(6) + " " + bench.tongue.count(3), "3999 2");
        Bench.due("the last one", bench.compile("a.c;") + " " + bench.tongue.count(6), "2 4000");
    }

    /** An object in which all NAMES but so many are made: o, i, n0, n1 and so on. */
    private static Bench named(int left) {
        return Bench.ran("o = {}; i = 0; while (i < " + (4000 - 2 - left) + ") { o[\"n\" + i]; i = i + 1; }");
    }

    private static void names() {
        Bench.about("term 3, fault 7: more than 4000 NAMES (at the name)");
        String[] news = {"x;", "var x;", "x = 1;", "fun x() { }", "a.x;", "a.x();", "a.x = 1;", "try { } catch (x) { }", "fun n1(x) { }",
                "n1 = { x: 1 };", "new x();"};
        for (String one : news) {
            Bench two = named(2);
            String known = one.replace("a", "n2").replace("cn2tch", "catch").replace("vn2r", "var");
            Bench.due("one of two left, " + known, two.fault("yy = 1; " + known.replace("x", "n3")), -1);
            Bench.due("the last one, " + known, two.fault(known), -1);
            Bench.due("count(8)", two.tongue.count(8), 4000);
            Bench.due("none left, " + known, two.fault("n3; " + known.replace("x", "zz")), 7 + 16 * (4
                    + known.indexOf(known.contains("catch (") ? "x)" : "x")));
        }
        Bench bench = named(1);
        Bench.due("two more", bench.fault("x; y;"), 7 + 16 * 3);
        Bench.due("one that is refused takes none", bench.tongue.count(8), 3999);
        Bench.due("a keyword is none", bench.fault("x; this; null; print(n5);"), -1);
        Bench.due("a text is none", bench.fault("\"y\"; \"z\";"), -1);
        Bench.due("nor is one that was told", bench.fault("n7.n8 = n9; o.x();"), -1);
        Bench.due("no more", bench.fault("y;"), 7);
    }

    private static void seventeenth() {
        Bench.about("promise 7: a fault 7 for the seventeenth at place 0, whatever the tape is");
        Bench bench = new Bench();
        for (int u = 0; u < 16; u++) {
            Bench.due("its number", bench.compile(u % 2 == 0 ? "return " + u + ";" : ""), u);
            Bench.due("a refused one between", bench.fault(" ;"), u == 15 ? 7 : 1 + 16);
        }
        for (String text : new String[] {"", "a;", "  \n ;", "#", " \"", Bench.times("(", 60), "fun f(a, a) { }"}) {
            Bench.due("the seventeenth, " + text, bench.compile(text), -8);
            Bench.due("the tape", bench.tongue.count(0), 0);
        }
        Bench.due("count(3)", bench.tongue.count(3) + " " + bench.tongue.count(4) + " " + bench.tongue.count(8), "16 16 0");
        Bench.due("the sixteenth runs", bench.tongue.start(0, 15) + " " + bench.tongue.start(1, 16), "true false");
        bench.runUnit(1, 14);
        Bench.due("the fifteenth", bench.end(1), "2 2 14");
        bench.host("");
        Bench.due("anew with a host", bench.compile(""), 0);
    }

    private static void refusedLeavesNothing() {
        Bench.about("promise 7, term 3: units that are refused take no room, all stays but the tape");
        String[] refused = {"zz = y1 + \"new\" + \"t\"; fun ff(v1, v2) { var v3; return fun (v4) { v5.v6(1)[2] = {}; }; } #",
            "o.q1 = \"q2\"; o.q1(1); new o.q3(1, 2); o[1] = 2; } ", "fun f(a, b, c, a) { }", "x = " + Bench.times("(", 51), "x = 1 = 2;",
            "print(1, 2);", "f(1, 2, 3, 4, 5, 6, 7, 8, 9);", "a \"t", "while (1) { try { zq; } catch (qz) { } "};
        String first = "o = { a: 1, t: \"t\" }; fun g(x) { return x.a; } g(o);";
        String second = "y1 = \"u\"; fun ff(v2) { var k; return fun () { return v2 + k; }; } o.q1 = 3; print(g(o)); print(o[\"t\"] +"
                + " y1); l = [4]; l[0] = 7;"
                + " print(l[0]); v9 = new g(o); try { ff(1)(); } catch (e) { print(e); } return \"new\";";
        String between = Bench.all(() -> ran(first));
        String due = Bench.all(() -> ran(first, second));
        for (String one : refused) {
            Bench.due("refused: " + one, new Bench().fault(one) >= 0, true);
            Bench.due("all stays behind " + one, Bench.all(() -> ran(one, first, one)), between);
            Bench.due("and goes on behind " + one, Bench.all(() -> ran(one, first, one, second)), due);
        }
        Bench twin = ran(first, second);
        Bench.due("what it printed", twin.output() + twin.end(1) + twin.text(1), "1\ntu\n7\n1\n2 3 3new");
    }

    /** A new object that was given some units, and has run those that were not refused in one task and the other. */
    private static Bench ran(String... units) {
        Bench bench = new Bench();
        int task = 0;
        for (String unit : units) {
            task += bench.run(task, unit) < 0 ? 0 : 1;
        }
        return bench;
    }
}
