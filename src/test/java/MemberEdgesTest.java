/** Promise 23, the second half of term 2 and term 8, sentence by sentence: what members do, and which of them is meant. */
public final class MemberEdgesTest {
    private static final String ROUND = "m = 2147483647; b = (m + 1) * (m + 1) * 2; ";

    public static void main(String[] args) {
        trace();
        firstValues();
        fieldsInOrder();
        accessorNames();
        accessorFields();
        numbers();
        odd();
        namesAndVoid();
        receivers();
        constructors();
        interfaceMethods();
        firstLetters();
        longNames();
        getters();
        setters();
        among();
        strict();
        loose();
        variable();
        specific();
        severalOrNone();
        manyMembers();
        whatAChoiceIsOf();
        choicesThatAreAlike();
        keptErrors();
        manyDescriptorsOfHosts();
        Bench.end();
    }

    /** Calls on a new instance o of O, each with the numbers that it adds to the TRACE or the ERROR that it is. */
    private static void does(String host, String... wants) {
        for (int i = 0; i < wants.length; i += 2) {
            Bench bench = Bench.ran(host, ROUND + "O = host(\"O\"); o = new O(); try { " + wants[i] + "; } catch (e) { print(e); }");
            String error = bench.output().isEmpty() ? "" : "e" + bench.output().trim();
            String traced = bench.trace();
            int second = traced.indexOf(' ', traced.indexOf(' ') + 1);
            Bench.due(wants[i], (second < 0 ? "" : traced.substring(second + 1)) + error, wants[i + 1]);
        }
    }

    /** What these calls on a new instance o of O print. */
    private static void gives(String host, String... wants) {
        for (int i = 0; i < wants.length; i += 2) {
            Bench bench = Bench.ran(host, ROUND + "O = host(\"O\"); o = new O(); try { print(" + wants[i]
                    + "); } catch (e) { print(\"e\" + e); }");
            Bench.due(wants[i], bench.output(), wants[i + 1] + "\n");
        }
    }

    private static void trace() {
        Bench.about("promise 23, term 2: its number comes to the TRACE, and behind it the number of its arguments");
        String eight = "Any, Any, Any, Any, Any, Any, Any, Any";
        String host = "class O { void a(); new (); void b(" + eight + "); void c(int...); int d; int getD(); static void e(Any); }";
        Bench bench = Bench.ran(host, "O = host(\"O\"); o = new O(); o.a(); o.b(1, 2, 3, 4, 5, 6, 7, 8); o.c(); o.c(1, 2, 3, 4, 5, 6,"
                + " 7, 8); o.d; O.e(null);");
        Bench.due("all", bench.trace(), "1 0 0 0 2 8 3 0 3 8 5 0 6 1");
        Bench.due("count(16)", bench.tongue.count(16), 14);
        Bench.due("the last", bench.tongue.trace(13) + " " + bench.tongue.trace(14), "1 -1");
        for (int i : new int[] {Integer.MIN_VALUE, -1, 14, 15, 100000, Integer.MAX_VALUE}) {
            Bench.due("trace(" + i + ")", bench.tongue.trace(i), -1);
        }
        Bench.due("of none", new Face.Real().trace(0), -1);
        StringBuilder many = new StringBuilder("class O { new (); ");
        for (int i = 1; i < 400; i++) {
            many.append("int m").append(i).append("(); ");
        }
        bench = Bench.ran(many + "}", "o = new (host(\"O\"))(); print(o.m1()); print(o.m399());");
        Bench.due("the last of 400", bench.trace() + " " + bench.output(), "0 0 1 0 399 0 1\n399\n");
        Bench.about("term 8: ERRORS 8 and 9 do nothing");
        does(host, "o.a(1)", "e9", "o.b(1, 2, 3, 4, 5, 6, 7)", "e9", "o.c(null)", "e9", "o.e(1)", "e4", "O.a()", "e4", "O.e()", "e9",
                "new O(1)", "e9");
    }

    private static void firstValues() {
        Bench.about("term 2: 0, false or null at first; a class one for each static field");
        String[] types = {"int", "0", "long", "0", "bool", "false", "Int", "null", "Long", "null", "Bool", "null", "Text", "null", "Any",
                "null", "O", "null", "I", "null"};
        for (int i = 0; i < types.length; i += 2) {
            String host = "interface I { } class P { } class O : P { " + types[i] + " a; static " + types[i] + " b; new (); }";
            gives(host, "o.a", types[i + 1], "O.b", types[i + 1], "O.a", "e4", "o.b", "e4");
            Bench bench = Bench.ran(host, "new (host(\"O\"))();");
            String kind = types[i + 1].equals("0") ? "2" : types[i + 1].equals("false") ? "1" : "0";
            Bench.due("property of " + types[i], bench.tongue.property(0, 0, 0) + " " + bench.tongue.property(0, 0, 1) + " "
                    + bench.tongue.property(0, 0, 2),
                    kind + " 0 -1");
            Bench.due("no other", Bench.answer(() -> bench.tongue.property(0, 1, 0)), "IndexOutOfBoundsException");
        }
        Bench bench = Bench.ran("class P { static Any s; } class Q : P { static Any s; new (); } class R : P { new (); }",
                "P = host(\"P\"); Q = host(\"Q\"); R = host(\"R\"); P.s = 1; Q.s = 2; print(R.s); R.s = 3; print(P.s); print(Q.s); new"
                + " Q(); new R();");
        Bench.due("one for each static field", bench.output(), "1\n3\n2\n");
        Bench.due("none of an instance", Bench.answer(() -> bench.tongue.property(0, 0, 0)), "IndexOutOfBoundsException");
        Bench.due("thing(0)", bench.thing(0) + ", " + bench.thing(1), "3 -1 -1 1 -1 -1, 3 -1 -1 2 -1 -1");
    }

    private static void fieldsInOrder() {
        Bench.about("promise 20: field i of an instance (none that is static, from the highest class on, in order)");
        Bench bench = Bench.ran("class P { int a; static int s; Any b; } class Q : P { static int t; Any a; void m(); int c; } class R"
                + " : Q { new (); bool d; }",
                "r = new (host(\"R\"))(); r.d = true; r.c = 7; r.a = \"x\"; r.b = r; r.b;");
        long[][] due = {{2, 0}, {7, 0}, {3, 1}, {2, 7}, {1, 1}};
        for (int i = 0; i < due.length; i++) {
            Bench.due("kind of " + i, bench.tongue.property(0, i, 0), due[i][0]);
            Bench.due("value of " + i, bench.tongue.property(0, i, 1), due[i][1]);
        }
        Bench.due("no sixth", Bench.answer(() -> bench.tongue.property(0, 5, 0)), "IndexOutOfBoundsException");
        Bench.due("none before", Bench.answer(() -> bench.tongue.property(0, -1, 0)), "IndexOutOfBoundsException");
        Bench.due("the field that is meant", bench.entry(bench.tongue.count(6) - 1, 0), "1 2 -1 2 -1 0");
    }

    private static void accessorNames() {
        Bench.about("term 2: get + X, is + X of type bool, set + X of type void (X: a NAME that begins with a capital)");
        // Fields of int are a, z, aB1, _x, x1; of bool y; a method that gives no field gives its number.
        String fields = "class O { new (); int a; int z; int aB1; int _x; bool y; int get; int g; int A; ";
        String set = "o.a = 50; o.z = 51; o.aB1 = 52; o._x = 53; o.y = true; o.get = 54; o.g = 55; o.A = 56; return ";
        String[] wants = {"int getA();", "o.getA()", "50", "int getZ();", "o.getZ()", "51", "int getAB1();", "o.getAB1()", "52",
                "int get_x();", "o.get_x()", "9",
            "int geta();", "o.geta()", "9", "int getz();", "o.getz()", "9", "int get();", "o.get()", "9", "int get1();", "o.get1()", "9",
            "int getA(int);", "o.getA(1)", "10", "int getA(int...);", "o.getA()", "9", "int GetA();", "o.GetA()", "9", "int gettA();",
            "o.gettA()", "9",
            "int getGet();", "o.getGet()", "54", "int getG();", "o.getG()", "55", "int isA();", "o.isA()", "9", "bool isY();", "o.isY()",
            "true", "bool isy();", "o.isy()", "true",
            "bool getY();", "o.getY()", "true", "bool is();", "o.is()", "true", "bool isY(int);", "o.isY(1)", "false", "Bool isY();",
            "o.isY()", "true",
            "bool isA();", "o.isA()", "true", "long getA();", "o.getA()", "9", "Int getA();", "o.getA()", "9", "Any getA();", "o.getA()",
            "O@0", "int getB();", "o.getB()", "9"};
        for (int i = 0; i < wants.length; i += 3) {
            Bench bench = Bench.ran(fields + wants[i] + " }", "o = new (host(\"O\"))(); " + set + "\"\" + " + wants[i + 1] + ";");
            String got = bench.text(0);
            if (wants[i].startsWith("Any")) {
                bench.run(1, "print(o.getA());");
                got = bench.output().trim();
            }
            Bench.due(wants[i], got, wants[i + 2]);
        }
        // Of a bool that gives no field the number decides: this one has an even one.
        Bench bench = Bench.ran("class O { new (); bool y; bool isy(); bool isY_(); bool isY(); }", "o = new (host(\"O\"))(); o.y = true;"
                + " print(o.isy()); print(o.isY_()); print(o.isY());");
        Bench.due("isy, isY_, isY", bench.output(), "false\ntrue\ntrue\n");
        bench = Bench.ran("class O { new (); bool y; Any n; bool isy(); Bool isY(); bool isY(int); }",
                "o = new (host(\"O\"))(); o.y = false; print(o.isY()); print(o.isY(0));");
        Bench.due("isY of Bool, isY with a parameter", bench.output(), "false\ntrue\n");
        String[] sets = {"void setA(int);", "1", "void setA(int...);", "0", "void setA(long);", "0", "void setA(Int);", "0",
                "void setA(int, int);", "0", "void setA();", "0",
            "int setA(int);", "0", "Any setA(int);", "0", "void seta(int);", "0", "void SetA(int);", "0", "void setAa(int);", "0",
            "void set(int);", "0", "void settA(int);", "0",
            "static void setA(int);", "0", "void getA(int);", "0", "void isA(int);", "0"};
        for (int i = 0; i < sets.length; i += 2) {
            String name = sets[i].substring(sets[i].indexOf(' ', sets[i].startsWith("static") ? 7 : 0) + 1, sets[i].indexOf('('));
            String es = sets[i].contains("int, int") ? "7, 7" : sets[i].contains("()") ? "" : "7";
            String goal = sets[i].startsWith("static") ? "host(\"O\")." : "o.";
            bench = Bench.ran("class O { new (); int a; " + sets[i] + " }", "o = new (host(\"O\"))(); print(" + goal + name + "(" + es
                    + ")); print(o.a);");
            String first = sets[i].startsWith("int") ? "9\n" : sets[i].startsWith("Any") ? "O@0\n" : "null\n";
            Bench.due(sets[i], bench.output(), first + (sets[i + 1].equals("1") ? "7" : "0") + "\n");
        }
        // What is no get, is or set ahead of a capital, or no capital behind one.
        gives("class O { int a; int P; new (); int xA(); int A(); int get0(); void tA(int); void A(int); bool b; bool asB(); bool B(); }",
                "(o.a = 7) + o.xA()", "10", "(o.a = 7) + o.A()", "11", "(o.P = 9) + o.get0()", "14", "o.tA(5) == null && o.a == 0",
                "true", "o.A(5) == null && o.a == 0", "true", "o.asB()", "true", "(o.b = true) && o.B()", "false");
    }

    private static void accessorFields() {
        Bench.about("term 2: if the nearest field of that name, of the method's own class or one above that, is of just that type, and"
                + " static just if the method is");
        gives("class P { int a; } class O : P { new (); int getA(); }", "o.a", "0", "o.a = 5", "5", "(o.a = 5) + o.getA()", "10");
        gives("class P { int a; } class O : P { new (); Any a; int getA(); }", "o.getA()", "3");
        gives("class P { int a; } class O : P { new (); static int a; int getA(); }", "o.getA()", "3");
        gives("class P { static int a; } class O : P { new (); int a; static int getA(); }", "O.getA()", "3");
        gives("class P { static int a; } class O : P { new (); static int getA(); int b; }", "(O.a = 6) + O.getA()", "12");
        gives("class P { int getA(); } class O : P { new (); int a; }", "(o.a = 6) + 1", "7", "o.getA()", "0");
        gives("class P { int a; int getA(); } class O : P { new (); int a; }", "o.getA()", "0", "o.a = 4", "4");
        gives("interface I { int getA(); } class O : I { int a; new (); }", "o.getA()", "0", "o.I", "e4");
        gives("interface I { void setA(int); int getA(); } class O : I { new (); int a; int q; }", "o.setA(4)", "null", "o.a = 4", "4",
                "o.getA()", "1");
        gives("class P { int a; int getA(); } class Q : P { } class O : Q { new (); void setA(int); }", "o.setA(8)", "null",
                "(o.a = 9) + o.getA()", "18");
        gives("class P { P a; } class O : P { new (); }", "o.a", "null");
        gives("class P { } class Q : P { Q a; } class O : Q { new (); P getA(); Q getA(int); void setA(P); void setA(Q); }",
                "o.getA()", "O@0", "o.setA(o)", "null", "o.a", "O@0");
    }

    private static void numbers() {
        Bench.about("term 2: of int, long, Int, Long: its number + the sum of its arguments that are numbers (as that type, going round)");
        // new 0, i 1, l 2, I 3, L 4
        String host = "class O { new (); int i(Any...); long l(Any...); Int I(Any...); Long L(Any...); }";
        gives(host, "o.i()", "1", "o.i(\"x\", null, true, {}, [], O, o)", "1", "o.i(-1)", "0", "o.i(2147483646)", "2147483647", "o.i(m)",
                "-2147483648",
                "o.i(m + 1)", "-2147483647", "o.i(-m - 2)", "-2147483648", "o.i(-m - 3)", "2147483647", "o.i(m, m, 1)", "0", "o.i(b)", "1",
                "o.I(m - 3)", "2147483647", "o.I(m)", "-2147483646", "o.I(b, b)", "3", "o.l(m)", "2147483649", "o.l(b)",
                "-9223372036854775806",
                "o.l(b, -2)", "-9223372036854775808", "o.l(b, -3)", "9223372036854775807", "o.L(b, b)", "4", "o.L(b - 1)",
                "-9223372036854775805",
                "kind(o.l(1))", "int", "kind(o.l(m))", "long", "kind(o.i(m + 1))", "int");
    }

    private static void odd() {
        Bench.about("term 2: of bool, Bool: whether that (as a long) is odd");
        // new 0, b 1, B 2
        String host = "class O { new (); bool b(Any...); Bool B(Any...); }";
        gives(host, "o.b()", "true", "o.b(1)", "false", "o.b(-1)", "false", "o.b(-2)", "true", "o.b(b)", "true", "o.b(b - 1)", "false",
                "o.B()", "false",
                "o.B(1)", "true", "o.B(-3)", "true", "o.B(m + 1)", "false", "o.B(m, m + 1)", "true", "o.B(true, \"1\")", "false",
                "o.b() == true", "true",
                "o.B() == false", "true", "o.b() == 1", "false");
        Bench bench = Bench.ran(host, "return new (host(\"O\"))().b();");
        Bench.due("told as 1", bench.end(0), "2 1 1");
    }

    private static void namesAndVoid() {
        Bench.about("term 2: of Text: its name; of void null");
        String thirty = "z23456789_123456789_123456789_";
        gives("class O { new (); Text a(); Text " + thirty
                + "(); static Text A_1(int...); void v(); Text getT(); Text t; Text getU(); Any u; }", "o.a()", "a", "o." + thirty + "()",
                thirty,
                "O.A_1(5)", "A_1", "o.v()", "null", "o.v() == null", "true", "o.getT()", "null", "o.t = \"q\"", "q", "o.getU()", "getU",
                "o.u", "getU");
    }

    private static void receivers() {
        Bench.about("term 2: its receiver, if that is an instance of such; else the first of its arguments that is such a value (of Any"
                + " any one but null); else null");
        String host = "interface I { } class P { new (); } class Q : P, I { new (); } class O : P { new (); Any a(Any...); O o(Any...);"
                + " P p(Any...); I i(Any...); Q q(Any...);"
                + " static Any sa(Any...); static P sp(Any...); static I si(Any...); }";
        String news = "";
        gives(host, "o.a()", "O@0", "o.a(1)", "O@0", "o.o(1)", "O@0", "o.p()", "O@0", "o.i()", "null", "o.i(o)", "null", "o.q()", "null",
                "o.q(1, null, o, O)", "null",
                "o.q(new (host(\"Q\"))())", "Q@1", "o.i(1, new (host(\"Q\"))(), new (host(\"Q\"))())", "Q@1",
                "o.q(new (host(\"P\"))(), new (host(\"Q\"))())", "Q@2",
                "o.i(o, host(\"Q\"), new (host(\"Q\"))())", "Q@1", "O.sa()", "null", "O.sa(null, null)", "null", "O.sa(null, false, 1)",
                "false", "O.sa(0)", "0", "O.sa(O)", "O",
                "O.sa({})", "{}", "O.sa(\"\")", "", "O.sp()", "null", "O.sp(O, 1, o)", "O@0", "O.si(o)", "null",
                "O.si(o, new (host(\"Q\"))())", "Q@1" + news);
    }

    private static void constructors() {
        Bench.about("term 2: a constructor sets for each argument in order the first field that isn't set by it yet and has just the"
                + " parameter's type, if there is one");
        String host = "class P { static int s; int a; Any b; int c; } class O : P { int d; static Any t; Any e; new (); new (int); new"
                + " (int, int); new (int, int, int);"
                + " new (int, int, int, int, int); new (Any, int, Any, int); new (Int); new (Any...); }";
        String show = "O = host(\"O\"); x = new O(ES); print(x.a); print(x.b); print(x.c); print(x.d); print(x.e); print(O.s); print(O.t);";
        // An Int goes to Int or Any ahead of int, but phase 1 fits these alone.
        String[] wants = {"", "0 null 0 0 null 0 null", "1, 2", "1 null 2 0 null 0 null", "1, 2, 3", "1 null 2 3 null 0 null",
                "1, 2, 3, 4, 5", "1 null 2 3 null 0 null",
            "\"x\", 2, \"y\", 4", "2 x 4 0 y 0 null", "null, null, \"z\"", "0 null 0 0 null 0 null", "null, 1", "0 null 0 0 1 0 null", "7",
            "0 null 0 0 null 0 null",
            "\"p\", \"q\", \"r\", \"s\"", "0 p 0 0 q 0 null", "true", "0 true 0 0 null 0 null", "null, 2, null, 4",
            "2 null 4 0 null 0 null"};
        for (int i = 0; i < wants.length; i += 2) {
            Bench bench = Bench.ran(host, show.replace("ES", wants[i]));
            Bench.due("new O(" + wants[i] + ")", bench.output().trim().replace('\n', ' '), wants[i + 1]);
        }
        Bench bench = Bench.ran("class O { new (long, bool, Text); long l; int i; bool b; Text t; Long L; }",
                "o = new (host(\"O\"))(5, true, \"x\");"
                + " print(o.l); print(o.i); print(o.b); print(o.t); print(o.L);");
        Bench.due("an int to long, a bool", bench.output(), "5\n0\ntrue\nx\nnull\n");
        bench = Bench.ran("class O { new (Any); }", "o = new (host(\"O\"))(5); print(o);");
        Bench.due("no field at all", bench.output(), "O@0\n");
        bench = Bench.ran("class O { new (O, O); O o; O p; static O q; }",
                "O = host(\"O\"); o = new O(null, null); p = new O(null, o); print(p.o); print(p.p); print(O.q);");
        Bench.due("null sets one, too", bench.output(), "null\nO@0\nnull\n");
    }

    private static void interfaceMethods() {
        Bench.about("term 2: an interface's methods are its subtypes' as well, if they have none with the same name and types");
        // I.m 0, I.m(int) 1, J.n 2, P.m 3, O: new 4, m(Any) 5
        String host = "interface I { int m(); int m(int); } interface J : I { int n(); } class P : J { int m(); } class O : P { new ();"
                + " int m(Any); }";
        does(host, "o.m()", "3 0", "o.m(1)", "5 1", "o.n()", "2 0", "o.m(null)", "5 1", "o.m(1, 2)", "e9", "o.n(1)", "e9");
        does("interface I { int m(int); } class O : I { new (); int m(int...); }", "o.m(1)", "2 1", "o.m()", "2 0");
        does("interface I { int m(int...); } class O : I { new (); int m(int); }", "o.m(1)", "2 1", "o.m()", "e9");
        does("interface I { int m(int); } class O : I { new (); static int m(int); }", "o.m(1)", "0 1", "O.m(1)", "2 1");
        Bench bench = Bench.ran("interface I { Any m(); I i(); } class O : I { new (); }",
                "o = new (host(\"O\"))(); print(o.m()); print(o.i());");
        Bench.due("its receiver", bench.output(), "O@0\nO@0\n");
    }

    private static void firstLetters() {
        Bench.about("term 7: with N being n with its first letter a capital (n itself, if it is _ or a capital already)");
        // new 0, getA 1, getZ 2, get_b 3, setA 4, setZ 5, set_b 6, isC 7, getab 8, getA1 9
        String host = "class O { new (); int getA(); int getZ(); int get_b(); void setA(int); void setZ(int); void set_b(int); bool"
                + " isC(); int getab(); int getA1(); }";
        does(host, "o.a", "1 0", "o.A", "1 0", "o.z", "2 0", "o.Z", "2 0", "o._b", "3 0", "o.a = 1", "4 1", "o.A = 1", "4 1", "o.z = 1",
                "5 1", "o.Z = 1", "5 1",
                "o._b = 1", "6 1", "o.c", "7 0", "o.C", "7 0", "o.b", "e4", "o.ab", "e4", "o.getA", "e4", "o.a1", "9 0", "o.c = 1", "e4",
                "o.__b", "e4");
        Bench.due("it gives the value",
                Bench.ran(host, "o = new (host(\"O\"))(); print(o.a); print(o._b); print(o.c); print(o._b = 8);").output(),
                "1\n3\ntrue\n8\n");
    }

    private static void longNames() {
        Bench.about("term 7: GET and SET of names as long as can be");
        String thirty = "a23456789_123456789_123456789_";
        String eight = thirty.substring(0, 27);
        String nine = thirty.substring(0, 28);
        String host = "class O { new (); int " + thirty + "; int getA" + eight.substring(1) + "(); bool isA" + nine.substring(1)
                + "(); void setA" + eight.substring(1) + "(int); }";
        does(host, "o." + thirty, "", "o." + thirty + " = 4", "", "o." + eight, "2 0", "o." + nine, "3 0", "o." + eight + " = 1", "4 1",
                "o." + nine + " = 1", "e4",
                "o." + thirty.substring(0, 29), "e4", "o." + thirty.substring(0, 29) + "x", "e4", "o." + thirty + "()", "e4");
        gives(host, "(o." + thirty + " = 4) + o." + thirty, "8");
    }

    private static void getters() {
        Bench.about("term 7: GET n: getN without parameters, else isN of bool without, else the nearest field, else ERROR 4");
        // new 0, getA 1, isA 2, a 3, isB 4, b 5, isC 6, c 7, getD 8, d 9, getE 10, isE 11
        String host = "class O { new (); int getA(); bool isA(); int a; bool isB(); int b; Bool isC(); int c; int getD(int); int d;"
                + " void getE(); bool isE(); int getF(int...); bool isG(int); }";
        does(host, "o.a", "1 0", "o.b", "4 0", "o.c", "", "o.d", "", "o.e", "10 0", "o.f", "e4", "o.g", "e4", "o.o", "e4", "O.a", "e4",
                "O.b", "e4");
        gives(host, "o.c", "0", "o.d", "0", "o.e", "null");
        // P: new 0, getA 1, isB 2, a 3, b 4; O: new 5, a 6, getB 7
        does("class P { new (); int getA(); bool isB(); Any a; int b; } class O : P { new (); int a; int getB(); }", "o.a", "1 0", "o.b",
                "7 0");
        does("interface I { int getA(); } class P { bool isA(); int a; } class O : P, I { new (); }", "o.a", "0 0");
        does("class P { static int getA(); int a; static bool isB(); int b; } class O : P { new (); }", "o.a", "", "o.b", "", "O.a", "0 0",
                "O.b", "2 0");
        does("class P { int getA(); static int a; } class O : P { new (); }", "o.a", "0 0", "O.a", "");
    }

    private static void setters() {
        Bench.about("term 7: SET n: methods setN of one parameter, if its class has any (these alone), else the field n, to which the"
                + " value is converted, else ERROR 4");
        // new 0, setA 1, a 2, setB 3, b 4, setC 5, c 6, setD 7, d 8
        String host = "class O { new (); void setA(Text); int a; void setB(); int b; void setC(int, int); int c; int setD(int...); int"
                + " d; static void setE(int); int e; }";
        does(host, "o.a = 1", "e9", "o.a = \"x\"", "1 1", "o.b = 1", "", "o.c = 1", "", "o.d = 1", "7 1", "o.d = null", "e9", "o.e = 1",
                "", "O.e = 1", "9 1", "O.a = 1", "e4", "o.f = 1", "e4",
                "o.b = \"x\"", "e7", "o.b = null", "e7", "o.b = m + 1", "e7", "o.b = true", "e7");
        gives(host, "(o.b = 3) + o.b", "6", "o.d = 5", "5", "o.a = \"x\"", "x");
        Bench bench = Bench.ran(host, "o = new (host(\"O\"))(); o.b = 4; try { o.b = \"x\"; } catch (e) { print(e); } print(o.b);");
        Bench.due("ERROR 7 sets nothing", bench.output(), "7\n4\n");
        // P: setA(int) 0; O: new 1, setA(Text) 2
        does("class P { void setA(int); } class O : P { new (); void setA(Text); Any a; }", "o.a = 1", "0 1", "o.a = \"x\"", "2 1",
                "o.a = null", "2 1", "o.a = {}", "e9");
        does("interface I { void setA(Any); } class O : I { new (); void setA(int, int); int a; }", "o.a = 1", "0 1");
        does("class O { new (); void setA(int); void setA(long); void setB(Text); void setB(O); int b; }", "o.a = 1", "1 1", "o.a = m + 1",
                "2 1", "o.b = null", "e8", "o.b = 1", "e9");
    }

    private static void among() {
        Bench.about("term 8: static ones and others by themselves, constructors its own alone");
        // P: new(int) 0, m(int) 1, static n(int) 2; O: new 3, static m(Any) 4, n(Any) 5
        String host = "class P { new (int); int m(int); static int n(int); } class O : P { new (); static int m(Any); int n(Any); }";
        does(host, "o.m(1)", "1 1", "o.m(\"x\")", "e9", "O.m(1)", "4 1", "o.n(1)", "5 1", "O.n(1)", "2 1", "O.n(\"x\")", "e9", "new O(1)",
                "e9", "new O()", "3 0", "new (host(\"P\"))()", "e9",
                "new (host(\"P\"))(1)", "0 1", "host(\"P\").m(1)", "e4", "O.zz(1)", "e4", "o.zz()", "e4", "o.O()", "e4");
        does("class P { new (); } class Q { } class O : P { new (); }", "new (host(\"Q\"))()", "e4", "new (host(\"P\"))()", "0 0");
        does("class P { new (); } class O : P { new (); } class Q : P { }", "new (host(\"Q\"))()", "e4");
        Bench.about("term 8: but those with the types of one that comes ahead");
        // J.m 0, I.m 1, B.m(int) 2, O: new 3
        does("interface J { int m(); } interface I { int m(); } class B : J { int m(int); } class O : B, I { new (); }", "o.m()", "1 0",
                "o.m(1)", "2 1");
        does("interface J { int m(); } interface I : J { int m(Any); } class B { int m(Any); } class O : B, I { new (); }", "o.m()", "0 0",
                "o.m(1)", "2 1");
        does("interface K { int m(); } interface J { int m(); } interface I : J, K { } class O : I { new (); }", "o.m()", "1 0");
        does("interface K { int m(); } interface J { } interface I : J, K { } class B { } class O : I, B, K { new (); }", "o.m()", "0 0");
        does("interface I { int m(int); } class O : I { new (); int m(int...); }", "o.m(1)", "2 1");
    }

    private static void strict() {
        Bench.about("term 8: PHASE 1, as many parameters as ES, each ES null or of a subtype of the parameter, which is no primitive");
        // new 0, a(Int) 1, a(int) 2, b(Any) 3, b(int) 4, c(Bool) 5, c(bool) 6, d(Long) 7, d(long) 8, e(P) 9, e(Any, Any) 10, f() 11, f(Any) 12
        String host = "interface I { } class P : I { } class O : P { new (); int a(Int); int a(int); int b(Any); int b(int); int"
                + " c(Bool); int c(bool); int d(Long); int d(long);"
                + " int e(P); int e(Any, Any); int f(); int f(Any); int g(I); int g(Any); int h(int, Any); int h(Any, Any); }";
        does(host, "o.a(1)", "1 1", "o.a(null)", "1 1", "o.a(m + 1)", "e9", "o.b(1)", "3 1", "o.b(null)", "3 1", "o.c(true)", "5 1",
                "o.c(1)", "e9", "o.d(1)", "8 1", "o.d(m + 1)", "7 1",
                "o.d(null)", "7 1", "o.e(o)", "9 1", "o.e(null)", "9 1", "o.e(O)", "e9", "o.e(o, o)", "10 2", "o.f()", "11 0", "o.f(null)",
                "12 1", "o.f(1, 2)", "e9", "o.g(o)", "13 1", "o.g(O)", "14 1",
                "o.g(null)", "13 1", "o.h(1, 2)", "16 2", "o.h(null, 2)", "16 2");
    }

    private static void loose() {
        Bench.about("term 8: PHASE 2, the same, but also Int goes to int and long, Long to long, Bool to bool");
        String[] types = {"int", "long", "bool", "Int", "Long", "Bool", "Text", "Any", "O"};
        String[] values = {"1", "m + 1", "true", "\"x\"", "null", "{}", "[]", "O", "o", "fun () { }"};
        String[] goes = {"1000000000", "1100000000", "0010000000", "1000100000", "0100100000", "0010100000", "0001100000", "1111111111",
                "0000100010"};
        for (int t = 0; t < types.length; t++) {
            String host = "class O { new (); int a(" + types[t] + "); int b(Any, " + types[t] + "); int c(" + types[t]
                    + "...); static int d(" + types[t] + "); " + types[t] + " e; void setF(" + types[t] + "); }";
            for (int v = 0; v < values.length; v++) {
                boolean fits = goes[t].charAt(v) == '1';
                does(host, "o.a(" + values[v] + ")", fits ? "1 1" : "e9", "o.b(null, " + values[v] + ")", fits ? "2 2" : "e9", "o.c("
                        + values[v] + ")", fits ? "3 1" : "e9",
                        "O.d(" + values[v] + ")", fits ? "4 1" : "e9", "o.e = " + values[v], fits ? "" : "e7", "o.f = " + values[v], fits
                        ? "6 1" : "e9");
            }
        }
        // Phase 2 comes ahead of phase 3, and behind phase 1.
        does("class O { new (); int a(int); int a(Int...); int b(int, Any); int b(Any...); int c(long); int c(Any); }", "o.a(1)", "1 1",
                "o.a(1, 1)", "2 2", "o.a()", "2 0", "o.b(1, 1)", "3 2",
                "o.b(\"x\", 1)", "4 2", "o.c(1)", "6 1", "o.c(m + 1)", "6 1");
    }

    private static void variable() {
        Bench.about("term 8: PHASE 3, ES for all ahead of it, all others to its type likewise");
        String host = "class O { new (); int a(int...); int b(Text, int...); int c(Text, Text, bool...); int d(Any, Any, Any, Any, Any,"
                + " Any, Any, int...); int e(Any, Any, Any, Any, Any, Any, Any, Any...); }";
        does(host, "o.a()", "1 0", "o.a(1)", "1 1", "o.a(1, 2, 3, 4, 5, 6, 7, 8)", "1 8", "o.a(1, 2, 3, 4, 5, 6, 7, null)", "e9",
                "o.a(null)", "e9", "o.a(\"x\", 1)", "e9",
                "o.b()", "e9", "o.b(\"x\")", "2 1", "o.b(null)", "2 1", "o.b(\"x\", 1, 2)", "2 3", "o.b(\"x\", \"y\")", "e9", "o.b(1)",
                "e9", "o.c(\"x\")", "e9", "o.c(\"x\", \"y\")", "3 2",
                "o.c(\"x\", \"y\", true, false)", "3 4", "o.c(\"x\", \"y\", true, 1)", "e9", "o.d(1, 2, 3, 4, 5, 6)", "e9",
                "o.d(1, 2, 3, 4, 5, 6, 7)", "4 7", "o.d(1, 2, 3, 4, 5, 6, 7, 8)", "4 8",
                "o.d(1, 2, 3, 4, 5, 6, 7, \"x\")", "e9", "o.e(1, 2, 3, 4, 5, 6, 7)", "5 7", "o.e(1, 2, 3, 4, 5, 6, 7, null)", "5 8");
        Bench.about("term 8: of those without a variable one in phases 1 and 2, of those with one in phase 3");
        does("class O { new (); int a(Any...); int b(Any); int b(Int, Int...); }", "o.a(1)", "1 1", "o.b(1)", "2 1", "o.b(1, 1)", "3 2",
                "o.b(\"x\", 1)", "e9");
    }

    private static void specific() {
        Bench.about("term 8: MORE SPECIFIC than each other one: each of its parameters is a subtype of the other's");
        // new 0, a(Any) 1, a(P) 2, a(O) 3, b(Any, O) 4, b(O, Any) 5, b(O, O) 6, c(Any, O) 7, c(O, Any) 8, d(int) 9, d(long) 10
        String host = "class P { } class O : P { new (); int a(Any); int a(P); int a(O); int b(Any, O); int b(O, Any); int b(O, O); int"
                + " c(Any, O); int c(O, Any); int d(int); int d(long);"
                + " int e(int, Any); int e(long, Any); int e(long, Text); int f(Text); int f(P); }";
        does(host, "o.a(o)", "3 1", "o.a(null)", "3 1", "o.a(1)", "1 1", "o.b(o, o)", "6 2", "o.b(o, 1)", "5 2", "o.b(1, o)", "4 2",
                "o.b(null, null)", "6 2", "o.c(o, o)", "e8", "o.c(o, 1)", "8 2",
                "o.d(1)", "9 1", "o.d(m + 1)", "10 1", "o.e(1, 1)", "11 2", "o.e(1, \"x\")", "e8", "o.e(m + 1, \"x\")", "13 2",
                "o.f(null)", "e8", "o.f(o)", "15 1", "o.f(\"x\")", "14 1");
        Bench.about("term 8: in phase 3 for the first k parameters, the variable one standing for all that are wanting");
        // new 0, a(int...) 1, a(long...) 2, b(Any...) 3, b(Any, Text...) 4, c(int...) 5, c(int, int...) 6, d(Any, Any...) 7, d(Text...) 8, e(Text, Any...) 9, e(Any, Text...) 10
        host = "class O { new (); int a(int...); int a(long...); int b(Any...); int b(Any, Text...); int c(int...); int c(int, int...);"
                + " int d(Any, Any...); int d(Text...);"
                + " int e(Text, Any...); int e(Any, Text...); int f(Any, Any, int...); int f(long...); }";
        does(host, "o.a()", "1 0", "o.a(1, 1)", "1 2", "o.a(1, m + 1)", "2 2", "o.b()", "3 0", "o.b(1)", "4 1", "o.b(1, \"x\")", "4 2",
                "o.b(1, 1)", "3 2", "o.c()", "5 0", "o.c(1)", "e8", "o.c(1, 2)", "e8",
                "o.d()", "8 0", "o.d(\"x\")", "8 1", "o.d(1)", "7 1", "o.d(\"x\", 1)", "7 2", "o.e(\"x\")", "e8", "o.e(\"x\", 1)", "9 2",
                "o.e(1, \"x\")", "10 2", "o.e(\"x\", \"y\")", "e8",
                "o.f(1, 1)", "e8", "o.f(1, 1, 1)", "e8", "o.f(1)", "12 1", "o.f(\"x\", 1)", "11 2");
    }

    private static void severalOrNone() {
        Bench.about("term 8: several or none such: ERROR 8; none fits in any phase: ERROR 9");
        does("class O { new (); int a(Int, Any); int a(Any, Int); int a(Int, Int, Int); int b(Text); int b(Bool); int c(int...); int"
                + " c(int, int...); }", "o.a(1, 1)", "e8", "o.a(1, null)", "e8",
                "o.a(1, \"x\")", "1 2", "o.a(1, 1, 1)", "3 3", "o.a(1)", "e9", "o.a(\"x\", \"y\")", "e9", "o.b(null)", "e8", "o.b(1)",
                "e9", "o.c(1)", "e8", "o.c(\"x\")", "e9");
        // ERROR 8 of phase 1 is not mended by phase 2 or 3.
        does("class O { new (); int a(Int, Any); int a(Any, Int); int a(int, int); int a(Int...); }", "o.a(1, 1)", "e8", "o.a(1)", "4 1");
    }

    private static void manyMembers() {
        Bench.about("term 8: of many overloaded ones");
        StringBuilder host = new StringBuilder("class O { new (); ");
        String[] types = {"Int", "Text", "Bool", "Long", "O"};
        for (int i = 0; i < 125; i++) {
            host.append("int m(").append(types[i % 5]).append(", ").append(types[i / 5 % 5]).append(", ").append(types[i / 25]).append("); ");
        }
        String[] values = {"1", "\"x\"", "true", "m + 1", "o"};
        for (int i = 0; i < 125; i += 7) {
            does(host + "}", "o.m(" + values[i % 5] + ", " + values[i / 5 % 5] + ", " + values[i / 25] + ")", (i + 1) + " 3");
        }
        does(host + "}", "o.m(1, 1, null)", "e8", "o.m(1, 1, {})", "e9");
    }

    private static void whatAChoiceIsOf() {
        Bench.about("term 8: a CHOICE (of a class, static ones, others or constructors, a name, for SET or not, and the classes of the"
                + " ES) is worked out once");
        String host = "class Q { static int m(Any...); static void setN(Any); } class P : Q { new (Any...); int m(Any...); int"
                + " n(Any...); void setN(Any); int m(int, int); } class O : P { new (); new (Any...); }";
        String[] twice = {"o.m()", "o.m(1)", "o.m(2147483647 + 1)", "o.m(null)", "o.m(\"x\")", "o.m(true)", "o.m({})", "o.m(o)", "o.m(p)",
                "o.m(1, 2)", "o.m(2, \"x\")", "o.m(\"x\", 2)",
            "o.m(1, 2, 3, 4, 5)", "o.m(1, 2, 3, 4, null)", "o.m(1, 2, 3, 4, 5, 6, 7, 8)", "o.m(1, 2, 3, 4, null, 6, 7, 8)",
            "o.m(1, 2, 3, 4, 5, null, 7, 8)", "o.m(1, 2, 3, 4, 5, 6, null, 8)",
            "o.m(1, 2, 3, 4, 5, 6, 7, null)", "o.n(1)", "o.n = 1", "o.setN(1)", "p.m(1)", "p.n = 1", "O.m(1)", "O.n = 1", "O.setN(1)",
            "P.m(1)", "P.n = 1", "new O(1)", "new P(1)", "new P(1, 1)", "P.m()", "o.n(p)"};
        StringBuilder text = new StringBuilder("O = host(\"O\"); P = host(\"P\"); o = new O(); p = new P(); ");
        for (String one : twice) {
            text.append(one).append("; ").append(one).append("; ");
        }
        Bench bench = Bench.ran(host, text.toString());
        Bench.due("the task", bench.end(0), "2 0 0");
        Bench.due("kept and worked out", bench.tongue.count(13) + " " + bench.tongue.count(14), (2 + twice.length) + " " + (2
                + twice.length));
        bench.run(1, "o.m([]); o.m(fun () { }); o.m(P); o.m(3); o.m(4); o.m(false); o.m(\"\");");
        Bench.due("the same classes", bench.tongue.count(13) + " " + bench.tongue.count(14), (2 + twice.length) + " " + (2 + twice.length));
        bench.run(1, "o.n; o.zz;");
        Bench.due("a field or none is no choice", bench.tongue.count(13) + " " + bench.tongue.count(14) + ", " + bench.end(1), (2
                + twice.length) + " " + (2 + twice.length) + ", 3 2 4");
    }

    private static void choicesThatAreAlike() {
        Bench.about("term 8: CHOICES that differ in one of these alone");
        StringBuilder host = new StringBuilder();
        StringBuilder text = new StringBuilder();
        StringBuilder due = new StringBuilder();
        for (int k = 0; k < 12; k++) {
            host.append("class C").append(k).append(" { new (); int m(Any); int m(Any, Any, Any); static int m(Any, Any); static int"
                    + " m(int); new (Any); void setM(Any); static void setM(int); int n(Any); static int n(int); } ");
            int first = 10 * k;
            text.append("C = host(\"C").append(k).append("\"); c = new C(); c.m(1); C.m(1); new C(1); c.m = 1; C.m = 1; c.setM(1);"
                    + " C.setM(1); c.n(1); C.n(1); c.m(1, null, null); C.m(1, null); ");
            int[] members = {first, first + 1, first + 4, first + 5, first + 6, first + 7, first + 6, first + 7, first + 8, first + 9,
                    first + 2, first + 3};
            int[] es = {0, 1, 1, 1, 1, 1, 1, 1, 1, 1, 3, 2};
            for (int i = 0; i < es.length; i++) {
                due.append(members[i]).append(' ').append(es[i]).append(' ');
            }
        }
        Bench bench = Bench.alike(() -> Bench.ran(host.toString(), text + text.toString()));
        Bench.due("the task", bench.end(0), "2 0 0");
        Bench.due("trace", bench.trace() + " ", due + due.toString());
        Bench.due("kept and worked out", bench.tongue.count(13) + " " + bench.tongue.count(14), 12 * 12 + " " + 12 * 12);
        does("class O { new (); int m(Any...); int n(Any...); int a(Any); int b(Any, Any); static int c(Any, Any, Any); static int d(Any); }",
                "o.m(1, null); o.n(1)", "1 2 2 1", "o.n(1); o.m(1, null)", "2 1 1 2",
                "o.a(1); o.b(1, null)", "3 1 4 2", "o.b(1, null); o.a(1)", "4 2 3 1", "O.d(1); o.m(1, null, null)", "6 1 1 3",
                "o.m(1, null, null); O.d(1)", "1 3 6 1", "o.m(); o.m(null); o.m(null, null)", "1 0 1 1 1 2");
        gives("class O { new (); int i(); void v(); Any a(Any); static Any s(Any...); long l(); }", "o.i() + o.l() > 0 && o.v() == null",
                "true", "o.l() == 5 && O.s() == null", "true", "o.l() == 5 && O.s(null, null) == null", "true");
        Bench nothing = Bench.ran("class O { new (); int i(); void v(); }", "o = new (host(\"O\"))(); o.i(); return o.v();");
        Bench.due("null", nothing.end(0), "2 0 0");
    }

    private static void keptErrors() {
        Bench.about("term 8: and kept (also that it is an ERROR)");
        Bench bench = Bench.ran("class O { new (); int a(Text); int a(Bool); void setB(Text); void setB(Bool); int c; }",
                "o = new (host(\"O\"))(); i = 0; fun t(f) { try { f(); } catch (e) { print(e); } }"
                + " while (i < 2) { t(fun () { o.a(null); }); t(fun () { o.a(1); }); t(fun () { o.a(); }); t(fun () { o.b = null; });"
                + " t(fun () { o.b = 1; }); t(fun () { new (host(\"O\"))(1); });"
                + " t(fun () { o.c = null; }); t(fun () { o.zz(); }); i = i + 1; }");
        Bench.due("output", bench.output().replace("\n", ""), "8998997489989974");
        Bench.due("kept and worked out", bench.tongue.count(13) + " " + bench.tongue.count(14), "7 7");
        bench.host("class O { new (); int a(Any); }");
        bench.run(0, "o = new (host(\"O\"))(); print(o.a(null));");
        Bench.due("a new host forgets them", bench.output() + bench.tongue.count(13) + " " + bench.tongue.count(14), "1\n2 2");
    }

    private static void manyDescriptorsOfHosts() {
        Bench.about("term 8: ES classes as guards, up to the eighth");
        String host = "class O { int m(Any, Any, Any, Any, Any, Any, Any, Any); new (Any, Any, Any, Any, Any, Any, Any, Any); new ();"
                + " static int s(Any...); }";
        for (int at = 0; at < 8; at++) {
            StringBuilder one = new StringBuilder();
            StringBuilder other = new StringBuilder();
            for (int i = 0; i < 8; i++) {
                one.append(i == 0 ? "" : ", ").append("1");
                other.append(i == 0 ? "" : ", ").append(i == at ? "null" : "1");
            }
            Bench bench = Bench.ran(host, "O = host(\"O\"); o = new O(); fun f(a, b, c, d, e, f, g, h) { o.m(a, b, c, d, e, f, g, h);"
                    + " O.s(a, b, c, d, e, f, g, h); new O(a, b, c, d, e, f, g, h); }"
                    + " f(" + one + "); f(" + other + "); f(" + one + "); f(" + other + ");");
            int s = bench.tongue.function(1, 4);
            Bench.due("method, " + at, bench.site(s, 6, 9), "2 2 0 2");
            Bench.due("static, " + at, bench.site(s + 1, 6, 9), "2 2 0 2");
            Bench.due("new, " + at, bench.site(s + 2, 6, 9), "2 2 0 2");
            Bench.due("entry of a method", bench.entry(s, 0) + ", " + bench.entry(s + 1, 1) + ", " + bench.entry(s + 2, 0),
                    "1 0 -1 0 -1 0, 2 0 -1 3 -1 0, 2 0 -1 1 -1 0");
            Bench.due("WRONG", bench.tongue.count(17), 0);
        }
    }
}
