/** Promise 23 and terms 2, 7 and 8: what members do, and which of overloaded ones is meant. */
public final class OverloadTest {
    public static void main(String[] args) {
        fields();
        accessors();
        answers();
        constructors();
        phases();
        specific();
        inherited();
        staticOnes();
        reads();
        writes();
        choices();
        wrongArguments();
        Bench.end();
    }

    /** Runs a unit in which o is an instance of O, and O that class: what it printed. */
    private static String ran(String host, String text) {
        return Bench.ran(host, "O = host(\"O\"); o = new O(); fun t(f) { try { print(f()); } catch (e) { print(\"e\" + e); } } "
                + text).output().replace('\n', ' ').trim();
    }

    /** Calls, and the member that each one does, or what it prints if it does none. */
    private static void chosen(String host, String... calls) {
        for (int i = 0; i < calls.length; i += 2) {
            Bench bench = Bench.ran(host, "b = 2147483647 + 1; O = host(\"O\"); o = new O(); try { print(" + calls[i]
                    + "); } catch (e) { print(\"e\" + e); }");
            String got = bench.tongue.count(16) > 2 ? "" + bench.tongue.trace(2) : bench.output().trim();
            Bench.due(calls[i], got, calls[i + 1]);
        }
    }

    private static void fields() {
        Bench.about("fields");
        String host = "class P { int a; static Any s; bool b; } class O : P { Any a; O o; Text t; long l; static int k;"
                + " new (); }";
        Bench.due("first values", ran(host, "print(o.a); print(o.b); print(o.o); print(o.t); print(o.l); print(O.s); print(O.k);"),
                "null false null null 0 null 0");
        Bench bench = Bench.ran(host, "x = new (host(\"O\"))(); x.a = 5; x.l = 6; return x;");
        Bench.due("result", bench.end(0), "2 7 0");
        Bench.due("thing(0)", bench.thing(0), "3 -1 -1 1 -1 -1");
        long[][] values = {{2, 0}, {1, 0}, {2, 5}, {0, 0}, {0, 0}, {2, 6}};
        for (int i = 0; i < values.length; i++) {
            Bench.due("kind of field " + i, bench.tongue.property(0, i, 0), values[i][0]);
            Bench.due("value of field " + i, bench.tongue.property(0, i, 1), values[i][1]);
            Bench.due("name of field " + i, bench.tongue.property(0, i, 2), -1);
        }
        Bench.due("statics are shared", ran(host, "host(\"P\").s = 4; print(O.s); O.s = 5; print(host(\"P\").s);"), "4 5");
        String convert = "class O { int i; long l; bool b; Int I; Long L; Bool B; Text T; Any A; O O; new (); }";
        String values1 = "[1, 2147483647 + 1, true, \"x\", null, {}, [], t, O, o]";
        String[] names = {"i", "l", "b", "I", "L", "B", "T", "A", "O"};
        String[] fits = {"1000000000", "1100000000", "0010000000", "1000100000", "0100100000", "0010100000",
            "0001100000", "1111111111", "0000100001"};
        for (int f = 0; f < names.length; f++) {
            StringBuilder got = new StringBuilder();
            for (String one : ran(convert, "v = " + values1 + "; i = 0; while (i < 10) { try { o." + names[f]
                    + " = v[i]; print(1); } catch (e) { print(e); } i = i + 1; }").split(" ")) {
                got.append(one.equals("7") ? "0" : one);
            }
            Bench.due("what goes to " + names[f], got.toString(), fits[f]);
        }
    }

    private static void accessors() {
        Bench.about("get, is and set");
        String host = "class P { int a; bool b; static Text s; Any x; long w; }"
                + " class O : P { int getA(); bool isB(); void setA(int); Text getS(); static Text getS(int);"
                + " static Text getT(); static Text t; static void setT(Text); Any getX(); Any x; void setW(int);"
                + " void setV(bool...); long getW(); Int isW(); new (); long getA(int); void getC(); bool isb(); bool v; bool c; }";
        Bench.due("a field's value", ran(host, "o.setA(7); print(o.getA()); print(o.a);"), "7 7");
        Bench.due("is", ran(host, "o.b = true; print(o.isB()); print(o.b);"), "true true");
        Bench.due("static and not", ran(host, "print(o.getS());"), "getS");
        Bench.due("static", ran(host, "O.setT(\"q\"); print(O.getT()); print(O.t);"), "q q");
        Bench.due("the nearest field", ran(host, "o.x = 3; print(o.getX()); print(o.x);"), "3 3");
        Bench.due("another type", ran(host, "print(o.setW(5)); print(o.getW()); print(o.w);"), "null 0 0");
        Bench.due("a variable parameter", ran(host, "print(o.setV(true)); print(o.v);"), "null false");
        Bench.due("parameters", ran(host, "o.a = 3; print(o.getA(2));"), "22");
        Bench.due("void get", ran(host, "o.c = true; print(o.getC()); print(o.c);"), "null null");
        Bench.due("no capital", ran(host, "o.b = true; print(o.isb());"), "false");
        Bench.due("is of another type", ran(host, "o.w = 1; print(o.isW());"), "" + 18);
        Bench.due("of the method's own class", ran("class P { int a; void setA(int); int getA(); }"
                + " class O : P { int a; new (); }", "o.setA(4); print(o.getA()); print(o.a);"), "4 4");
        Bench bench = Bench.ran("class P { int a; void setA(int); } class O : P { int a; new (); }",
                "o = new (host(\"O\"))(); o.setA(4);");
        Bench.due("which field was set", bench.tongue.property(0, 0, 1) + " " + bench.tongue.property(0, 1, 1), "4 0");
        Bench.due("set gives null, SET the value", ran("class O { int a; void setA(int); new (); }",
                "print(o.setA(4)); print(o.a = 6);"), "null 6");
    }

    private static void answers() {
        Bench.about("what methods give");
        // new of R 0, i 1, l 2, I 3, L 4, b 5, B 6, t 7, a 8, o 9, v 10, q 11, s 12, u 13, new 14
        String host = "interface Q { } class R : Q { new (); } class P { } class O : P { int i(Any...); long l(Any...); Int I(Any...); Long L(Any...);"
                + " bool b(Any...); Bool B(Any...); Text t(); Any a(Any...); O o(Any...); void v(Any...);"
                + " Q q(Any...); static Any s(Any...); static O u(Any...); new (); }";
        Bench.due("numbers", ran(host, "print(o.i()); print(o.i(1, \"x\", 3, null)); print(o.l(-5)); print(o.I(2)); print(o.L(2));"),
                "1 5 -3 5 6");
        Bench.due("going round", ran(host, "m = 2147483647; print(o.i(m, 1)); print(o.I(m, m, m)); print(o.l(m, m));"
                + " b = (m + 1) * (m + 1) * 2; print(o.L(b, -1)); print(o.i(b)); print(o.l(b, b));"),
                "-2147483647 -2147483648 4294967296 -9223372036854775805 1 2");
        Bench.due("odd", ran(host, "print(o.b()); print(o.b(1)); print(o.B()); print(o.B(-2, -4)); print(o.B(\"x\", 1));"),
                "true false false false true");
        Bench.due("text, void", ran(host, "print(o.t()); print(o.v(1));"), "t null");
        Bench.due("Any and classes", ran(host, "print(o.a(1)); print(o.o()); r = new (host(\"R\"))(); print(o.q(1, r, o));"
                + " print(o.q(o)); print(O.s()); print(O.s(null, 7)); print(O.s(O)); print(O.u(1, r, o)); print(O.u(r));"),
                "O@0 O@0 R@2 null null 7 O O@0 null");
        Bench bench = Bench.ran(host, "o = new (host(\"O\"))(); o.i(1, 2); o.t(); host(\"O\").s(1); o.v();");
        Bench.due("trace", bench.trace(), "14 0 1 2 7 0 12 1 10 0");
        Bench.due("count(16)", bench.tongue.count(16), 10);
        Bench.due("trace(0)", bench.tongue.trace(0), 14);
        Bench.due("trace(10)", bench.tongue.trace(10), -1);
    }

    private static void constructors() {
        Bench.about("constructors");
        String host = "class P { int a; Any b; static int s; int c; new (Any); }"
                + " class O : P { int d; Any e; new (); new (int, Any); new (int, int, int, int); new (Any...); }";
        String show = " i = 0; print(x.a); print(x.b); print(x.c); print(x.d); print(x.e);";
        Bench.due("none", ran(host, "x = new O();" + show), "0 null 0 0 null");
        Bench.due("from the highest class on", ran(host, "x = new O(1, \"z\");" + show), "1 z 0 0 null");
        Bench.due("one after the other", ran(host, "x = new O(1, 2, 3, 4);" + show), "1 null 2 3 null");
        Bench.due("variable", ran(host, "x = new O(5, \"q\", 7);" + show), "0 5 0 0 q");
        Bench.due("just the parameter's type", ran("class O { int a; Any b; int c; int d; Any e; new (); new (Text, int...); }",
                "x = new O(\"q\", 7, 8);" + show), "7 null 8 0 null");
        Bench.due("its own alone", ran("class P { new (int); } class O : P { new (); }",
                "t(fun () { return new O(1); });"), "e9");
    }

    private static void phases() {
        Bench.about("phases");
        String host = "class O { new (); Text a(int); Text a(Any); int b(int); int b(Int); int c(long); int c(Int...);"
                + " int d(Int); int e(Long); int f(bool, Any); int g(int...); int h(Any, int...); int k(Text); int m(O); }";
        // new 0, a(int) 1, a(Any) 2, b(int) 3, b(Int) 4, c(long) 5, c(Int...) 6, d 7, e 8, f 9, g 10, h 11, k 12, m 13
        String[] calls = {"o.a(1)", "2", "o.b(1)", "4", "o.c(1)", "5", "o.d(1)", "7", "o.d(null)", "7", "o.d(2147483647 + 1)", "e9",
            "o.e(1)", "e9", "o.e(2147483647 + 1)", "8", "o.c(2147483647 + 1)", "5", "o.c(1, 1)", "6", "o.c()", "6",
            "o.c(null)", "6", "o.c(\"x\")", "e9", "o.f(true, 1)", "9", "o.f(null, 1)", "e9", "o.f(1, 1)", "e9", "o.g()", "10",
            "o.g(1, 2, 3)", "10", "o.g(1, null)", "e9", "o.h()", "e9", "o.h(null)", "11", "o.h(O, 1)", "11", "o.h(1, \"x\")", "e9",
            "o.k(null)", "12", "o.k(\"t\")", "12", "o.k(1)", "e9", "o.m(o)", "13", "o.m(O)", "e9", "o.m(null)", "13",
            "o.a({})", "2", "o.a(1, 2)", "e9", "o.b(true)", "e9"};
        chosen(host, calls);
    }

    private static void specific() {
        Bench.about("more specific");
        String host = "interface I { } interface J : I { } class P : I { } class O : P, J { new (); Text a(P); Text a(I);"
                + " Text b(P); Text b(J); Text c(int, long); Text c(long, int); Text c(int, int); Text d(int, long); Text d(long, int);"
                + " Text e(int...); Text e(long...); Text f(int...); Text f(int, int...); Text g(int, Any...); Text g(Any...);"
                + " Text h(Text); Text h(O); Text k(Any, Any); Text k(Any, Text); Text k(Text, Any); Text l(int); Text l(long);"
                + " Text n(Any...); Text n(Any, Text...); Text n(Text, Text, Any...); }";
        // new 0, a 1 2, b 3 4, c 5 6 7, d 8 9, e 10 11, f 12 13, g 14 15, h 16 17, k 18 19 20, l 21 22, n 23 24 25
        String[] calls = {"o.a(o)", "1", "o.b(o)", "e8", "o.c(1, 1)", "7", "o.d(1, 1)", "e8", "o.e(1)", "10", "o.e()", "10",
            "o.e(b)", "11", "o.f(1)", "e8", "o.f()", "12", "o.g(1, 2)", "e8", "o.g(\"x\")", "15", "o.h(null)", "e8", "o.h(o)", "17",
            "o.k(\"x\", \"y\")", "e8", "o.k(\"x\", 1)", "20", "o.k(1, 1)", "18", "o.l(1)", "21", "o.l(b)", "22",
            "o.n(1, \"x\")", "24", "o.n(\"x\", \"y\")", "e8", "o.n(1, 1)", "23", "o.n(\"x\", \"y\", 1)", "25", "o.n()", "23"};
        chosen(host, calls);
    }

    private static void inherited() {
        Bench.about("what comes ahead");
        // I.m 0, I.q 1, J.m 2, J.r 3, J.p 4, P.m(int) 5, P.p 6, O.m(int...) 7, O.m(Any) 8, new 9
        String host = "interface I { Text m(Text); Text q(); } interface J : I { Text m(Text); Text r(); Text p(); }"
                + " class P : I { Text m(int); Text p(); } class O : J, P { Text m(int...); Text m(Any); new (); }";
        chosen(host, "o.m(1)", "8", "o.m(\"x\")", "2", "o.q()", "1", "o.r()", "3", "o.p()", "6", "o.m()", "7");
        Bench.due("interfaces of the class ahead of those above it",
                Bench.ran("interface I { Text m(); } interface J { Text m(); } class B : J { } class C : B, I { new (); }",
                        "new (host(\"C\"))().m();").trace(), "2 0 0 0");
        Bench.due("an interface's own supers behind it",
                Bench.ran("interface K { Text m(); } interface I : K { } interface J { Text m(); } class C : I, J { new (); }",
                        "new (host(\"C\"))().m();").trace(), "2 0 0 0");
        Bench.due("a class's method ahead of interfaces",
                Bench.ran("interface I { Text m(); } class B { Text m(); } class C : I, B { new (); }",
                        "new (host(\"C\"))().m();").trace(), "2 0 1 0");
        Bench.due("... hides the same types without it", Bench.ran("class B { Text m(int); } class C : B { Text m(int...); new (); }",
                "o = new (host(\"C\"))(); o.m(1); o.m();").trace(), "2 0 1 1 1 0");
    }

    private static void staticOnes() {
        Bench.about("static ones by themselves");
        String host = "class P { static Text m(int); Text n(); } class O : P { Text m(int, int); static Text n(int); new (); static Text k(); }";
        String[] calls = {"o.m(1)", "e9", "o.m(1, 2)", "2", "O.m(1)", "0", "O.m(1, 2)", "e9", "o.n()", "1", "O.n()", "e9",
            "O.n(1)", "3", "o.k()", "e4", "O.k()", "5", "host(\"P\").n()", "e4"};
        chosen(host, calls);
    }

    private static void reads() {
        Bench.about("GET of hosts");
        String host = "interface I { int getQ(); } class P : I { int a; static int b; int c; int getD(int); bool isE(); Bool isF(); int f;"
                + " int get_g(); int getH(); static int getK(); }"
                + " class O : P { static int a; int b; int isE(int); int isC(); new (); static int c; int _g; int H; static bool isM(); }";
        String[] wants = {"o.a", "0", "O.a", "0", "o.b", "0", "O.b", "0", "o.c", "0", "O.c", "0", "o.d", "e4", "o.e", "5", "o.f", "0",
            "o._g", "8", "o.h", "9", "o.H", "9", "o.q", "0", "o.k", "e4", "O.k", "10", "O.m", "19", "o.E", "5", "o.getH", "e4",
            "O.e", "e4", "o.Q", "0"};
        // getQ 0, a 1, b 2, c 3, getD 4, isE 5, isF 6, f 7, get_g 8, getH 9, getK 10, a 11, b 12, isE 13, isC 14, new 15, c 16,
        // _g 17, H 18, isM 19
        chosen(host, wants);
        Bench.due("the nearest field that is not static", ran("class P { int a; } class O : P { static int a; new (); }",
                "o.a = 4; O.a = 5; print(o.a); print(O.a);"), "4 5");
        Bench.due("isN hidden by one of another type", Bench.ran("class P { bool isA(); int a; } class O : P { int isA(); new (); }",
                "o = new (host(\"O\"))(); print(o.a);").trace(), "3 0");
    }

    private static void writes() {
        Bench.about("SET of hosts");
        String host = "class P { void setA(int); int a; void setB(int, int); Any b; static void setC(Any); Any c; }"
                + " class O : P { void setA(Text); Text setD(int...); int d; new (); }";
        // setA 0, a 1, setB 2, b 3, setC 4, c 5, setA 6, setD 7, d 8, new 9
        String[] wants = {"o.a = 1", "9 0 0 1", "o.a = \"x\"", "9 0 6 1", "o.a = true", "9 0", "o.b = 7", "9 0", "o.c = 7", "9 0",
            "O.c = 7", "9 0 4 1", "o.d = 5", "9 0 7 1", "o.d = null", "9 0", "O.a = 1", "9 0", "o.A = 3", "9 0 0 1"};
        for (int i = 0; i < wants.length; i += 2) {
            Bench bench = Bench.ran(host, "O = host(\"O\"); o = new O(); try { " + wants[i] + "; } catch (e) { print(\"e\" + e); }");
            Bench.due(wants[i], bench.trace(), wants[i + 1]);
        }
        Bench.due("errors", ran(host, "t(fun () { return o.a = true; }); t(fun () { return o.a = null; }); t(fun () { return o.b = 7; });"
                + " t(fun () { return o.d = null; }); t(fun () { return O.a = 1; }); print(o.a); print(o.b); print(o.d = 6); print(o.d);"),
                "e9 null 7 e9 e4 0 7 6 0");
    }

    private static void choices() {
        Bench.about("CHOICES");
        String host = "class O { new (); int a; void setA(int); void setA(Any); int m(Any); int m(int, int); static int m(Any, Any); }";
        Bench bench = Bench.ran(host, "O = host(\"O\"); o = new O(); o.a = 1; o.setA(1); o.m(1); o.m(2); o.m(\"x\"); o.m({});"
                + " o.m([]); o.m(null); o.m(2147483647 + 1); O.m(1, 1); o.m(1, 1); try { o.m(); } catch (e) { }"
                + " try { o.m(); } catch (e) { } try { o.zz(); } catch (e) { } o.a;");
        Bench.due("kept and worked out", bench.tongue.count(13) + " " + bench.tongue.count(14), "11 11");
        bench.host(host);
        Bench.due("a new host forgets them", bench.tongue.count(13) + " " + bench.tongue.count(14), "0 0");
    }

    private static void wrongArguments() {
        Bench.about("promise 23, wrong arguments");
        Bench bench = Bench.ran("class O { new (); }", "new (host(\"O\"))();");
        Bench.due("trace(-1)", bench.tongue.trace(-1), -1);
        Bench.due("trace(2)", bench.tongue.trace(2), -1);
        Bench.due("trace(most)", bench.tongue.trace(Integer.MAX_VALUE), -1);
    }
}
