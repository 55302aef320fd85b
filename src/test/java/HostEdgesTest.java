/** Promises 3 to 6 and the first half of term 2, sentence by sentence: what a host's text may be, and what is refused. */
public final class HostEdgesTest {
    private static final String[] TYPES = {"void", "int", "long", "bool", "Int", "Long", "Bool", "Text", "Any"};
    private static final String[] WORDS = {"class", "interface", "static", "new"};

    public static void main(String[] args) {
        empty();
        sixtyClasses();
        fourHundredMembers();
        eightParameters();
        wordsAsNames();
        namesToldAlready();
        wordsAsTypes();
        supers();
        voidFields();
        interfaces();
        sameTypes();
        leastOfOneToken();
        type();
        member();
        subtype();
        refusedHost();
        hostAnew();
        manyHosts();
        Bench.end();
    }

    /** The fault of a host's text on a new object, and that a text with one leaves nothing. */
    private static void fault(String text, int kind, int place) {
        Bench bench = new Bench();
        String before = bench.all();
        Bench.due("host of " + text, bench.host(text), kind + 16 * place);
        Bench.due("nothing is changed by " + text, bench.all(), before);
    }

    /** A fault at the place that a | marks in the text. */
    private static void marked(int kind, String text) {
        int place = text.indexOf('|');
        fault(text.substring(0, place) + text.substring(place + 1), kind, place);
    }

    private static Bench taken(String text) {
        Bench bench = new Bench();
        Bench.due("host of " + text, bench.host(text), 0);
        return bench;
    }

    private static String classes(int from, int to) {
        StringBuilder text = new StringBuilder();
        for (int k = from; k < to; k++) {
            text.append(k % 3 == 2 ? "interface c" : "class c").append(k).append("{}");
        }
        return text.toString();
    }

    private static void empty() {
        Bench.about("term 2: any number of classes, nothing as SUPERS, MEMBERS and PARAMETERS");
        Bench.due("no class", taken("").tongue.count(1), 0);
        Bench.due("no class, but a comment", taken(" // a\n ").tongue.count(1), 0);
        Bench bench = taken("class A{}interface B{}");
        Bench.due("no members", bench.type(0) + ", " + bench.type(1) + ", " + bench.tongue.count(2), "0 -1 0 0 0, 1 -1 0 0 0, 0");
        bench = taken("class A{new();int m();}");
        Bench.due("no parameters", bench.member(0) + ", " + bench.member(1), "0 2 0 9 0 0, 0 1 0 1 0 0");
        bench = taken("class A{void m(int...);new(Any,A...);}");
        Bench.due("variable ones", bench.member(0) + ", " + bench.member(1), "0 1 0 0 1 1 1, 0 2 0 9 2 1 8 9");
        marked(1, "class A : |{ }");
        marked(1, "class A { } class B : A, |{ }");
        marked(1, "class A { void m(int, |); }");
        marked(1, "class A { void m(|, int); }");
        marked(1, "class A { void m(int...|, int); }");
        marked(1, "class A { void m(|...); }");
        marked(1, "class A { } |;");
        marked(1, "|A { }");
        marked(1, "class A { |");
        marked(1, "class |");
    }

    private static void sixtyClasses() {
        Bench.about("term 2: classes and interfaces, together 60 at most");
        Bench bench = taken(classes(0, 60));
        Bench.due("count(1)", bench.tongue.count(1), 60);
        Bench.due("the last", bench.type(59) + ", " + bench.type(58) + ", " + bench.type(60), "1 -1 0 0 0, 0 -1 0 0 0, -1 -1 -1 -1 -1");
        Bench.due("of their types", bench.tongue.subtype(68, 8) + " " + bench.tongue.subtype(69, 8), "true false");
        String most = classes(0, 60);
        marked(5, most + "class |x{}");
        marked(5, most + "interface |x{}");
        marked(5, most + "class |x : y { }");
        marked(1, most + "class |");
        marked(1, most + "|x");
        // Each one is above the next, so that the last has all others as supers.
        StringBuilder chain = new StringBuilder("class d0{int a;}");
        for (int k = 1; k < 60; k++) {
            chain.append("class d").append(k).append(":d").append(k - 1).append("{}");
        }
        bench = taken(chain.toString());
        Bench.due("first and last of 60", bench.tongue.subtype(68, 9) + " " + bench.tongue.subtype(9, 68), "true false");
        Bench.due("above the last", bench.tongue.type(59, 1), 58);
        StringBuilder wide = new StringBuilder();
        for (int k = 0; k < 59; k++) {
            wide.append("interface d").append(k).append("{}");
        }
        wide.append("class e");
        for (int k = 0; k < 59; k++) {
            wide.append(k == 0 ? ":d" : ",d").append(k);
        }
        bench = taken(wide + "{}");
        Bench.due("59 supers", bench.type(59), "0 -1 59 0 0");
        Bench.due("of all of them", bench.tongue.subtype(68, 9) + " " + bench.tongue.subtype(68, 67), "true true");
        for (int of = 0; of <= 70; of++) {
            Bench.due("of " + of, bench.tongue.subtype(68, of), of >= 8 && of <= 68);
            Bench.due(of + " of it", bench.tongue.subtype(of, 68), of == 68);
        }
    }

    private static void fourHundredMembers() {
        Bench.about("term 2: members, 400 at most");
        StringBuilder some = new StringBuilder("class A{");
        for (int k = 0; k < 200; k++) {
            some.append("int a").append(k).append(';');
        }
        some.append("}class B:A{");
        for (int k = 200; k < 399; k++) {
            some.append(k % 2 == 0 ? "int a" : "static Any a").append(k).append(k % 5 == 0 ? "();" : ";");
        }
        String most = some.toString();
        Bench bench = taken(most + "new();}");
        Bench.due("count(2)", bench.tongue.count(2), 400);
        Bench.due("of B", bench.type(1), "0 0 1 200 200");
        Bench.due("the last", bench.member(399) + ", " + bench.member(400), "1 2 0 10 0 0, -1 -1 -1 -1 -1 -1");
        taken(most + "new();}class C{}interface D{}");
        marked(5, most + "new();|int z;}");
        marked(5, most + "new();|Any z();}");
        marked(5, most + "new();|new(int);}");
        marked(5, most + "new();static |int z;}");
        marked(5, most + "new();}class C{|C z;}");
        marked(5, most + "new();}interface C{|void z();}");
        marked(1, most + "new();|;}");
        Bench.due("a member has all its instance's fields", taken(most + "new();}").run(0, "o = new (host(\"B\"))();"), 7);
    }

    private static void eightParameters() {
        Bench.about("term 2: 8 parameters at most");
        String eight = "int, long, bool, Int, Long, Bool, Text, A";
        Bench bench = taken("class A { void m(" + eight + "); static int n(" + eight + "...); new (" + eight + "); }"
                + " interface B { void m(" + eight + "...); }");
        Bench.due("of a method", bench.member(0), "0 1 0 0 8 0 1 2 3 4 5 6 7 9");
        Bench.due("of a static variable one", bench.member(1), "0 1 1 1 8 1 1 2 3 4 5 6 7 9");
        Bench.due("of a constructor", bench.member(2), "0 2 0 9 8 0 1 2 3 4 5 6 7 9");
        Bench.due("of an interface's", bench.member(3), "1 1 0 0 8 1 1 2 3 4 5 6 7 9");
        Bench.due("member(0, 13)", bench.tongue.member(0, 13) + " " + bench.tongue.member(0, 14), "9 -1");
        marked(5, "class A { void m(" + eight + ", |int); }");
        marked(5, "class A { void m(" + eight + ", |A...); }");
        marked(5, "class A { new (" + eight + ", |Any); }");
        marked(5, "interface A { int m(" + eight + ", |Any); }");
        marked(1, "class A { void m(" + eight + ", |); }");
        marked(1, "class A { void m(" + eight + "...|, int); }");
    }

    private static void wordsAsNames() {
        Bench.about("term 2, fault 2: for whatever it is, one of the types' words, or class interface static new void");
        for (int i = 0; i < TYPES.length + WORDS.length; i++) {
            String word = i < TYPES.length ? TYPES[i] : WORDS[i - TYPES.length];
            marked(2, "class |" + word + " { }");
            marked(2, "interface |" + word + " { }");
            marked(2, "class A { int |" + word + "; }");
            marked(2, "class A { static Any |" + word + "; }");
            marked(2, "class A { void |" + word + "(); }");
            marked(2, "class A { void |" + word + "; }");
            marked(2, "class A { static A |" + word + "(int); }");
            marked(2, "interface A { Text |" + word + "(); }");
            marked(2, "interface A { Text |" + word + "; }");
        }
        taken("class Void { int Static; int ints; int nEw(); } class aclass { } interface interfaces { int texT(); }");
        taken("class if { int while; int var(); } class this { this null; }");
    }

    private static void namesToldAlready() {
        Bench.about("term 2, fault 2: a name told already");
        marked(2, "class A { } class |A { }");
        marked(2, "interface A { } interface |A { }");
        marked(2, "class A { } interface B { } interface |A : B { }");
        marked(2, "class A { int a; long |a; }");
        marked(2, "class A { static int a; int |a; }");
        marked(2, "class A { int a; static int |a; }");
        marked(2, "class A { int a; int b; int c; A |b; }");
        marked(1, "class A { int a; int a |int b; }");
        taken("class A { int a; int a(); int a(int); } class B : A { Any a; }");
        taken("class A { int A; } class a { }");
        taken("class A { int B; } class B { A A; }");
    }

    private static void wordsAsTypes() {
        Bench.about("term 2, fault 3: a name of a type that is none");
        for (String word : new String[] {"B", "b", "integer", "Void", "if"}) {
            marked(3, "class A { |" + word + " b; }");
            marked(3, "class A { static |" + word + " b; }");
            marked(3, "class A { void m(|" + word + "); }");
            marked(3, "class A { new (int, |" + word + "); }");
            marked(3, "class A : |" + word + " { }");
        }
        for (String word : new String[] {"class", "interface", "static"}) {
            marked(3, "class A { static |" + word + " b; }");
            marked(3, "class A { void m(|" + word + "); }");
            marked(3, "class A { new (int, |" + word + "); }");
            marked(3, "class A : |" + word + " { }");
        }
        marked(3, "class A { |class b; }");
        marked(3, "class A { |interface b(); }");
        marked(1, "class A { static |new (); }");
        marked(1, "class A { static |new b; }");
        marked(3, "class A { void m(|new); }");
        marked(3, "class A : |new { }");
        marked(3, "class A { void m(|void); }");
        marked(3, "class A { new (|void...); }");
        marked(3, "class A { int m(int, |void b); }");
        for (String word : TYPES) {
            marked(3, "class A : |" + word + " { }");
            marked(3, "interface A : |" + word + " { }");
        }
        marked(3, "class A : |A { }");
        marked(3, "interface A : |A { }");
        marked(3, "class A { } class B : A, |C { }");
        marked(3, "class A : |B { } class B { }");
        marked(1, "class A : |7 { }");
        marked(1, "class A { |7 b; }");
        marked(1, "class A { void m(|7); }");
        taken("class A { A a; static A b; A m(A, A...); new (A); }");
        taken("interface A { A m(A); } class B : A { A a; B b; }");
        taken("class A { void m(); static void n(); }");
    }

    private static void supers() {
        Bench.about("term 2, fault 4: a second class, a class among an interface's, one told twice");
        String three = "class A { } class B { } interface I { } interface J { } ";
        marked(4, three + "class C : A, |B { }");
        marked(4, three + "class C : I, A, J, |B { }");
        marked(4, three + "class C : A, |A { }");
        marked(4, three + "class C : I, |I { }");
        marked(4, three + "class C : I, A, J, |I { }");
        marked(4, three + "interface K : |A { }");
        marked(4, three + "interface K : I, |A { }");
        marked(4, three + "interface K : I, J, |I { }");
        marked(3, three + "class C : A, |C { }");
        marked(1, three + "class C : A |B { }");
        Bench bench = taken(three + "class C : I, A, J { } interface K : J, I { } class D : C, I { }");
        Bench.due("types", bench.type(4) + ", " + bench.type(5) + ", " + bench.type(6), "0 0 3 0 0, 1 -1 2 0 0, 0 4 2 0 0");
    }

    private static void voidFields() {
        Bench.about("term 2: a void field is a 1 at its ;, whatever its name, told already or not");
        marked(1, "class A { void a|; }");
        marked(1, "class A { int a; void a|; }");
        marked(1, "class A { static void a|; }");
        marked(1, "class A { void A|; }");
        marked(1, "interface I { void a|; }");
        marked(1, "class A { void |; }");
        marked(2, "class A { void |static; }");
        marked(2, "interface I { void |int; }");
    }

    private static void interfaces() {
        Bench.about("term 2, fault 6: a field or constructor of an interface, static in an interface");
        marked(6, "interface I { int |a; }");
        marked(6, "interface I { I |I; }");
        marked(6, "interface I { |new (); }");
        marked(6, "interface I { |new; }");
        marked(6, "interface I { |static int a(); }");
        marked(6, "interface I { |static int a; }");
        marked(6, "interface I { |static new (); }");
        marked(6, "interface I { |static; }");
        marked(1, "interface I { int a |}");
        marked(1, "interface I { int a|, b; }");
        taken("interface I { int a(); } class A { int a; static int b; new (); }");
    }

    private static void sameTypes() {
        Bench.about("term 2, fault 7: the types of another one of its class with the same name");
        marked(7, "class A { int m(); int m(|); }");
        marked(7, "class A { int m(); static Any m(|); }");
        marked(7, "class A { int m(int, A); int n(); int m(int, A|); }");
        marked(7, "class A { int m(int); int m(int...|); }");
        marked(7, "class A { int m(int...); int m(int|); }");
        marked(7, "class A { new (); new (|); }");
        marked(7, "class A { new (Any); new (int); new (Any...|); }");
        marked(7, "interface A { int m(int); int m(int|); }");
        marked(1, "class A { int m(); int m(|; }");
        taken("class A { int m(); int m(int); int m(int, int); int m(long); int n(); new (); new (int); }");
        taken("class A { int m(int, long); int m(long, int); int m(Int); int m(int, int...); }");
        taken("class A { int m(); } class B : A { int m(); }");
        taken("class A { int m; int m(); }");
    }

    private static void leastOfOneToken() {
        Bench.about("term 2: of one token the least fault");
        String most = classes(0, 60);
        marked(2, most + "class |c7 { }");
        marked(2, most + "class |static { }");
        marked(1, most + "class |7 { }");
        StringBuilder members = new StringBuilder("class A{");
        for (int k = 0; k < 400; k++) {
            members.append("int a").append(k).append(';');
        }
        marked(3, members + "|B b;}");
        marked(1, members + "|7 b;}");
        marked(1, members + "static |new();}");
        marked(5, members + "|int a3;}");
        marked(5, members + "}interface I{|new();}");
        marked(5, members + "}interface I{|int a;}");
        marked(6, members + "}interface I{|static int a();}");
        String eight = "int, int, int, int, int, int, int, int";
        marked(3, "class A { void m(" + eight + ", |void); }");
        marked(3, "class A { void m(" + eight + ", |B); }");
        marked(1, "class A { void m(" + eight + ", |7); }");
        marked(4, "class A { } interface I : |A, A { }");
        marked(2, "interface I { int |long; }");
    }

    private static void type() {
        Bench.about("promise 4: NONE for another k or what");
        Bench bench = taken("interface I { } class A : I { int a; } class B : A, I { } interface J : I { void m(); void n(); }");
        Bench.due("all", bench.type(0) + ", " + bench.type(1) + ", " + bench.type(2) + ", " + bench.type(3),
                "1 -1 0 0 0, 0 -1 1 1 0, 0 1 2 0 1, 1 -1 1 2 1");
        int[] edges = {Integer.MIN_VALUE, -1, 4, 5, 60, Integer.MAX_VALUE};
        for (int k : edges) {
            Bench.due("type(" + k + ", 0)", bench.tongue.type(k, 0), -1);
        }
        for (int what : new int[] {Integer.MIN_VALUE, -1, 5, 6, 9, Integer.MAX_VALUE}) {
            Bench.due("type(1, " + what + ")", bench.tongue.type(1, what), -1);
        }
    }

    private static void member() {
        Bench.about("promise 5: NONE for another k or what");
        Bench bench = taken("class A { int a; void m(long, bool...); new (); }");
        Bench.due("all", bench.member(0) + ", " + bench.member(1) + ", " + bench.member(2),
                "0 0 0 1 0 0, 0 1 0 0 2 1 2 3, 0 2 0 9 0 0");
        for (int k : new int[] {Integer.MIN_VALUE, -1, 3, 4, 400, Integer.MAX_VALUE}) {
            Bench.due("member(" + k + ", 0)", bench.tongue.member(k, 0), -1);
        }
        for (int what : new int[] {Integer.MIN_VALUE, -1, 8, 9, 13, 14, 15, 16, 17, Integer.MAX_VALUE}) {
            Bench.due("member(1, " + what + ")", bench.tongue.member(1, what), -1);
        }
        Bench.due("member(0, 6)", bench.tongue.member(0, 6), -1);
        StringBuilder types = new StringBuilder("class A { ");
        for (int type = 1; type < TYPES.length; type++) {
            types.append(TYPES[type]).append(" f").append(type).append("; ");
        }
        bench = taken(types + "A a; }");
        for (int type = 1; type <= 9; type++) {
            Bench.due("type of field " + type, bench.tongue.member(type - 1, 3), type);
        }
    }

    private static void subtype() {
        Bench.about("promise 6: void is none, of none; false if there are no such ones");
        Bench bench = taken("interface I { } class A : I { }");
        for (int type = 0; type <= 10; type++) {
            Bench.due("void of " + type, bench.tongue.subtype(0, type), false);
            Bench.due(type + " of void", bench.tongue.subtype(type, 0), false);
            Bench.due(type + " of itself", bench.tongue.subtype(type, type), type > 0);
            Bench.due(type + " of Any", bench.tongue.subtype(type, 8), type > 3);
            for (int none : new int[] {Integer.MIN_VALUE, -1, 11, 12, 73, 75, Integer.MAX_VALUE}) {
                Bench.due(type + " of " + none, bench.tongue.subtype(type, none), false);
                Bench.due(none + " of " + type, bench.tongue.subtype(none, type), false);
                Bench.due(none + " of itself", bench.tongue.subtype(none, none), false);
            }
        }
        Bench.due("int of long", bench.tongue.subtype(1, 2) + " " + bench.tongue.subtype(2, 1), "true false");
        Bench.due("Int of Long, int of Int", bench.tongue.subtype(4, 5) + " " + bench.tongue.subtype(1, 4), "false false");
        Bench.due("class and interface", bench.tongue.subtype(10, 9) + " " + bench.tongue.subtype(9, 10), "true false");
        bench.host("");
        Bench.due("of a host that went", bench.tongue.subtype(9, 9), false);
    }

    private static final String HOST = "class A { int a; static Any s; new (int); Any m(Any); void setA(int); }";
    private static final String UNIT = "A = host(\"A\"); o = new A(3); A.s = o; p = { x: \"t\" }; q = make(p); o.m(q.x);"
            + " print(q.x); fun f(a) { return a; } return f(\"text\");";

    private static void refusedHost() {
        Bench.about("promise 3: or its fault: all stays but the tape");
        String before = Bench.all(() -> midway());
        String[] refused = {"class", "class A { int a; } class A",
                "interface A { int m(); } class B : A { int b; new (); static int c; } #",
            classes(0, 60) + "class x { }", "class A { void m(Any); } class B { B }"};
        for (String text : refused) {
            Bench.due("refused: " + text, new Bench().host(text) > 0, true);
            Bench.due("all stays", Bench.all(() -> {
                Bench one = midway();
                one.host(text);
                return one;
            }), before);
            Bench bench = midway();
            bench.host(text);
            bench.tongue.steps(1, 1000);
            bench.run(0, "print(o.a); print(A.s); print(new A(4).m(null)); o.a = 8; print(o.a); return kind(o);");
            Bench.due("and goes on", bench.output() + bench.end(0) + " " + bench.trace() + " " + bench.global("r"),
                    "t\n3\nA@0\nA@4\n8\n2 3 4 2 1 3 1 2 1 3 1 4 1 2 104");
        }
    }

    /** An object with a host, of which one task is done and the other one runs. */
    private static Bench midway() {
        Bench bench = new Bench();
        bench.host(HOST);
        bench.run(0, UNIT);
        bench.compile("r = 1; while (true) { r = r + q.x.size; }");
        bench.tongue.start(1, 1);
        bench.tongue.steps(1, 40);
        return bench;
    }

    private static void hostAnew() {
        Bench.about("promise 3: all but the tape begins anew with it");
        Bench fresh = new Bench();
        fresh.host("class C { int c; new (); }");
        String want = fresh.all();
        Bench bench = new Bench();
        bench.host(HOST);
        bench.run(0, UNIT);
        bench.compile("while (true) { }");
        bench.tongue.start(1, 1);
        bench.tongue.steps(1, 5);
        Bench.due("host()", bench.host("class C { int c; new (); }"), 0);
        Bench.due("all is as of a new object", bench.all(), want);
        for (String name : new String[] {"A", "o", "p", "f", "x"}) {
            Bench.due("global " + name, bench.global(name), "none");
        }
        Bench.due("no task runs", Bench.answer(() -> bench.tongue.steps(1, 1)), "IllegalStateException");
        Bench.due("no result", Bench.answer(() -> bench.tongue.result(0, 0)), "IllegalStateException");
        Bench.due("no unit", bench.tongue.start(0, 0), false);
        String unit = "C = host(\"C\"); o = new C(); try { x; } catch (e) { print(e); } try { host(\"A\"); } catch (e) { print(e); }"
                + " fun g() { var v; return v; } print(g()); print(o.c);";
        fresh.run(0, unit);
        bench.run(0, unit);
        Bench.due("it goes on as a new one", bench.all(), fresh.all());
        Bench.due("what it printed", bench.output(), "10\n12\nnull\n0\n");
    }

    private static void manyHosts() {
        Bench.about("promise 3: hosts one behind the other, with refused ones between");
        String[] hosts = {HOST, "interface A { Any m(Any); } class B : A { long a; new (int); static Text s; Text t(int...); }",
            "class A { bool s; static int a; static void setA(int); new (int); new (Any); void m(Any...); } class D : A { new (int); }", "",
            "class A { Any m(Any); static int s; new (int); static Any m(); } class B { new (int); }",
            "interface J { Any m(Any); } class A { new (int); } class B : J { new (int); Any a; }",
            "class B { new (int); } class A : B { int b; static int s; new (int); static Any m(); Any m(Any); int getA(); }"};
        String unit = "n = \"A\"; i = 0; while (i < 2) { try { A = host(n); A.s; A.s = 1; print(A.s); } catch (e) { print(e); }"
                + " try { o = new A(7); print(o); o.a; print(o.a); o.a = 5; print(o.a); } catch (e) { print(e); }"
                + " try { print(o.m(3)); print(A.m()); } catch (e) { print(e); } n = \"B\"; i = i + 1; }";
        for (int i = 0; i < 2 * hosts.length; i++) {
            int last = i;
            String host = hosts[i % hosts.length];
            Bench.due("as on a new object, " + i, Bench.all(() -> told(hosts, last, unit)), Bench.all(() -> fresh(host, unit)));
            Bench bench = told(hosts, last, unit);
            Bench.due("code behind the last function", bench.tongue.code(bench.tongue.count(4), 0, 0), -1);
            Bench.due("a site behind the last", bench.tongue.site(bench.tongue.count(6), 0), -1);
            Bench.due("an entry behind the last", bench.tongue.entry(bench.tongue.count(6), 0, 0), -1);
        }
    }

    /** A new object with a host, of which both tasks have run a unit. */
    private static Bench fresh(String host, String unit) {
        Bench bench = new Bench();
        bench.host(host);
        bench.run(0, unit);
        bench.runUnit(1, 0);
        return bench;
    }

    /** An object of which hosts were told one behind the other, each behind a refused one, and a unit was run with each,
            again and again. */
    private static Bench told(String[] hosts, int last, String unit) {
        Bench bench = new Bench();
        for (int i = Math.max(0, last - 2); i <= last; i++) {
            bench.host("class Q { int s; static int a; void m(); new (int); } class A : Q { Any m(Any); ");
            Bench.due("host " + i, bench.host(hosts[i % hosts.length]), 0);
            bench.run(0, unit);
            if (i < last) {
                bench.host("class A { void a(int...); void b(A...); void c(Any...); void d(int...); static void e(int...); void f(int...); }"
                        + " class B : A { new (int...); new (A...); void g(int...); } #");
                bench.runUnit(1, 0);
            }
        }
        bench.host("class Q { int s; static int a; void m(); new (int); } class A : Q { Any m(Any); ");
        bench.runUnit(1, 0);
        return bench;
    }
}
