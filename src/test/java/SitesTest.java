/** Promises 10, 11, 19, 20 and 21: sites and their entries, things and shapes; terms 5 to 7. */
public final class SitesTest {
    public static void main(String[] args) {
        shapes();
        epochs();
        reads();
        writes();
        elements();
        stale();
        chains();
        megamorphic();
        methods();
        calls();
        news();
        listsAndTexts();
        hostEntries();
        errorsLinkNothing();
        wrongArguments();
        Bench.end();
    }

    private static void shapes() {
        Bench.about("promises 19 to 21");
        Bench bench = Bench.ran("o = { a: 1, b: \"xy\" }; p = make(o); q = { a: null }; q.b = true; f = fun () { };"
                + " f.a = f; l = [7, o]; make(null); make(p);");
        String[] things = {"0 2 -1 2 0 -1", "0 3 0 0 0 -1", "0 2 -1 2 -1 -1", "1 1 -1 1 -1 1", "2 -1 -1 2 -1 -1",
            "0 0 -1 0 -1 -1", "0 4 1 0 -1 -1"};
        for (int k = 0; k < things.length; k++) {
            Bench.due("thing(" + k + ")", bench.thing(k), things[k]);
        }
        String[] shapes = {"-1", "-1 a", "-1 a b", "0", "1"};
        for (int k = 0; k < shapes.length; k++) {
            Bench.due("shape(" + k + ")", bench.shape(k), shapes[k]);
        }
        Bench.due("count(12)", bench.tongue.count(12), 5);
        long[][] properties = {{0, 0, 2, 1, 1}, {0, 1, 3, 2, 2}, {2, 0, 0, 0, 1}, {2, 1, 1, 1, 2}, {3, 0, 5, 3, 1},
            {4, 0, 2, 7, -1}, {4, 1, 4, 0, -1}};
        for (long[] row : properties) {
            for (int what = 0; what < 3; what++) {
                Bench.due("property(" + row[0] + ", " + row[1] + ", " + what + ")",
                        bench.tongue.property((int) row[0], (int) row[1], what), row[2 + what]);
            }
        }

        Bench.about("term 6, drop and turn");
        bench = Bench.ran("o = { a: 1, b: 2, c: 3, d: 4 }; p = {}; drop(o, \"b\"); turn(o, p); q = { a: 1, c: 2 };"
                + " drop(q, \"zz\"); turn(o, p); drop(o, \"a\"); turn(o, null);");
        String[] more = {"-1", "-1 a", "-1 a b", "-1 a b c", "-1 a b c d", "-1 a c", "-1 a c d", "1", "1 a", "1 a c",
            "1 a c d", "1 c", "1 c d", "-1 c", "-1 c d"};
        for (int k = 0; k < more.length; k++) {
            Bench.due("shape(" + k + ")", bench.shape(k), more[k]);
        }
        Bench.due("no shape more", bench.tongue.count(12), more.length);
        Bench.due("thing(0)", bench.thing(0), "0 14 -1 2 -1 -1");
        Bench.due("what stays", bench.tongue.property(0, 0, 1) + " " + bench.tongue.property(0, 1, 1), "3 4");
    }

    private static void epochs() {
        Bench.about("promise 19, EPOCH");
        Bench bench = Bench.ran("p = {}; p.a = 1; o = make(p); p.a = 2; p.b = 3; drop(p, \"a\"); drop(p, \"a\");"
                + " turn(p, null); q = {}; turn(p, q); turn(p, q); o.a = 1; turn(o, null); f = fun () { }; turn(o, f);"
                + " f.x = 1;");
        Bench.due("of p", bench.tongue.thing(0, 4), 5);
        Bench.due("of o", bench.tongue.thing(1, 4), -1);
        Bench.due("of q", bench.tongue.thing(2, 4), 0);
        Bench.due("of f", bench.tongue.thing(3, 4), 1);
        Bench.due("prototype of o", bench.tongue.thing(1, 2), 3);
        Bench.due("prototype of p", bench.tongue.thing(0, 2), 2);
    }

    private static void reads() {
        Bench.about("promises 10 and 11, GET");
        Bench bench = Bench.ran("o = { a: 1 }; p = make(o); q = make(p); fun g(x) { return x.a; }"
                + " print(g(o)); print(g(q)); print(g({})); print(g(q)); print(g(make(o)));");
        Bench.due("output", bench.output(), "1\n1\nnull\n1\n1\n");
        int s = bench.tongue.function(1, 4);
        Bench.due("the site", bench.site(s, 6, 10), "4 1 0 4 0");
        Bench.due("entry 0", bench.entry(s, 0), "0 2 0 0 -1 0");
        Bench.due("entry 1", bench.entry(s, 1), "0 0 -1 -1 -1 0");
        Bench.due("entry 2", bench.entry(s, 2), "0 3 0 0 -1 0");
        Bench.due("entry 3", bench.entry(s, 3), "0 1 -1 0 -1 0");
        Bench.due("asked", bench.tongue.count(20), 4 + 5 + 1);
        Bench.due("values are read each time", Bench.ran("o = { a: 1 }; p = make(o); i = 0; while (i < 3) { print(p.a);"
                + " o.a = o.a + 5; i = i + 1; }").output(), "1\n6\n11\n");
    }

    private static void writes() {
        Bench.about("promises 10 and 11, SET");
        Bench bench = Bench.ran("fun w(x, v) { return x.a = v; } o = {}; w(o, 1); w(o, 2); p = make(o); w(p, 3);"
                + " w(make(o), 4); print(w(o, \"v\")); print(o.a); print(p.a);");
        Bench.due("output", bench.output(), "v\nv\n3\n");
        int s = bench.tongue.function(1, 4);
        Bench.due("the site", bench.site(s, 6, 10), "3 2 0 3 0");
        Bench.due("one more, with a prototype", bench.entry(s, 0), "0 2 -1 -1 3 0");
        Bench.due("which one", bench.entry(s, 1), "0 1 -1 0 -1 0");
        Bench.due("one more", bench.entry(s, 2), "0 0 -1 -1 1 0");
        bench = Bench.ran("o = {}; p = make(o); fun w(x) { x.a = 1; } w(p); o.z = 1; w(make(o));");
        Bench.due("a SET is never stale", bench.site(bench.tongue.function(1, 4), 6, 9), "1 1 0 1");
    }

    private static void elements() {
        Bench.about("GET ELEMENT and SET ELEMENT of objects");
        Bench bench = Bench.ran("o = { a: 1 }; fun g(x, k) { return x[k]; } print(g(o, \"a\")); print(g(o, \"b c\"));"
                + " print(g(o, \"a\")); print(g(o, \"\" + \"a\")); o[\"b c\"] = 2; print(g(o, \"b c\"));"
                + " fun t(k) { try { print(g(o, k)); } catch (e) { print(\"e\" + e); } } t(1); t(null); t(\"\"); t(o);");
        Bench.due("output", bench.output(), "1\nnull\n1\n1\n2\ne6\ne6\ne6\ne6\n");
        int s = bench.tongue.function(1, 4);
        Bench.due("the site", bench.site(s, 0, 2) + " " + bench.site(s, 6, 10), "2 -1 0 3 2 0 3 0");
        Bench.due("entry 0", bench.entry(s, 0), "0 2 -1 1 -1 0");
        Bench.due("entry 1", bench.entry(s, 1), "0 1 -1 -1 -1 0");
        Bench.due("a name by it", bench.name(bench.tongue.count(8) - 1), "b c");
        Bench.due("asked", bench.tongue.count(20), 2 + 3 + 4 + 10);

        Bench.about("the longest element");
        String sixty = "a23456789 123456789 123456789 a23456789 123456789 123456789 ";
        bench = Bench.ran("o = {}; o[\"" + sixty + "\"] = 1; k = \"" + sixty + "\" + \"x\"; try { o[k] = 2; }"
                + " catch (e) { print(e); } print(o[\"" + sixty + "\"]); print(has(o, k)); print(drop(o, k));");
        Bench.due("output", bench.output(), "6\n1\nfalse\nfalse\n");
        Bench.due("names", bench.tongue.count(8), 4);
        bench = Bench.ran("o = {}; print(has(o, \"qq\")); print(drop(o, \"qq\")); print(o[\"zz\"]);");
        Bench.due("has and drop make no name", bench.tongue.count(8), 2);
    }

    private static void stale() {
        Bench.about("STALE and PRUNED");
        Bench bench = Bench.ran("a = {}; b = make(a); c = make(b); d = {}; fun g(x) { return x.n; }"
                + " g(c); g(d); g(b); b.z = 1;");
        int s = bench.tongue.function(1, 4);
        Bench.due("of b: through a alone", bench.entry(s, 0), "0 1 -1 -1 -1 0");
        Bench.due("of d: through none", bench.entry(s, 1), "0 0 -1 -1 -1 0");
        Bench.due("of c: through b", bench.entry(s, 2), "0 2 -1 -1 -1 1");
        bench.run(0, "g(d);");
        Bench.due("a stale one behind the hit stays", bench.site(s, 6, 9), "3 1 0 3");
        bench.run(0, "try { g(null); } catch (e) { print(e); }");
        Bench.due("ERROR 3 prunes as well", bench.site(s, 6, 9) + " " + bench.output(), "3 1 1 2 3\n");
        Bench.due("asked", bench.tongue.count(20), 3 + 1 + 5);

        Bench.about("what makes an entry stale");
        String head = "a = { n: 1 }; b = make(a); c = make(b); fun g(x) { return x.n; } g(c); ";
        String[] changes = {"a.n = 2;", "a.k = 2;", "b.k = 2;", "c.n = 2;", "drop(a, \"n\");", "drop(b, \"n\");",
            "turn(a, null);", "turn(b, a);", "turn(c, b);", "turn(b, {});", "b.n = 5;", "turn(a, { n: 3 });"};
        int[] isStale = {0, 1, 1, 0, 1, 0, 1, 1, 0, 1, 1, 1};
        for (int i = 0; i < changes.length; i++) {
            Face tongue = Bench.ran(head + changes[i]).tongue;
            Bench.due(changes[i], tongue.entry(tongue.function(1, 4), 0, 5), isStale[i]);
        }
        bench = Bench.ran("z = {}; a = make(z); a.n = 1; b = make(a); fun g(x) { return x.n; } g(b); z.q = 1;");
        Bench.due("above the holder nothing counts", bench.entry(bench.tongue.function(1, 4), 0), "0 3 1 0 -1 0");
    }

    private static void chains() {
        Bench.about("at most 4 entries");
        Bench bench = Bench.ran("fun g(x) { return x.a; } l = [{ a: 1 }, { b: 1 }, { c: 1 }, { d: 1 }, { e: 1 }];"
                + " i = 0; while (i < 5) { g(l[i]); i = i + 1; }");
        int s = bench.tongue.function(1, 4);
        Bench.due("the site", bench.site(s, 6, 10), "5 0 0 4 0");
        for (int k = 0; k < 4; k++) {
            Bench.due("entry " + k, bench.tongue.entry(s, k, 1), 5 - k);
        }
        Bench.due("entry 4", bench.entry(s, 4), "-1 -1 -1 -1 -1 -1");
        bench.run(0, "g(l[1]); g(l[0]);");
        Bench.due("a hit leaves the order", bench.tongue.entry(s, 0, 1) + " " + bench.tongue.entry(s, 1, 1) + " "
                + bench.tongue.entry(s, 2, 1) + " " + bench.tongue.entry(s, 3, 1), "1 5 4 3");
        Bench.due("the site then", bench.site(s, 6, 10), "6 1 0 4 0");
    }

    private static void megamorphic() {
        Bench.about("MEGAMORPHIC");
        String head = "fun g(x) { return x.a; } l = [{ a: 1 }, { b: 1 }, { c: 1 }, { d: 1 }, { e: 1 }, { f: 1 },"
                + " { g: 1 }, { h: 1 }, { i: 1 }]; i = 0; ";
        Bench bench = Bench.ran(head + "while (i < 8) { g(l[i]); i = i + 1; }");
        int s = bench.tongue.function(1, 4);
        Bench.due("after eight links", bench.site(s, 6, 10), "8 0 0 4 0");
        bench.run(0, "print(g(l[7])); print(g(l[8]));");
        Bench.due("after nine", bench.site(s, 6, 10), "9 1 0 0 1");
        Bench.due("no entry", bench.entry(s, 0), "-1 -1 -1 -1 -1 -1");
        int asked = bench.tongue.count(20);
        bench.run(0, "fun h(x) { return g(x); } g(l[8]); g(l[8]); print(g(l[0]));");
        Bench.due("just lookups from then on", bench.site(s, 6, 10), "9 1 0 0 1");
        Bench.due("asked", bench.tongue.count(20) - asked, 3 + 3);
        Bench.due("output", bench.output(), "null\nnull\n1\n");
    }

    private static void methods() {
        Bench.about("METHOD of objects and funs");
        Bench bench = Bench.ran("p = { m: fun (a) { return this.v + a; } }; o = make(p); o.v = 5; fun g(x) {"
                + " try { return x.m(2); } catch (e) { return \"e\" + e; } } print(g(o)); print(g({})); print(g({ m: 1 }));"
                + " print(g({ m: null })); print(g(p)); f = fun () { }; f.m = g; print(g(o)); p.m = 7; print(g(o));");
        Bench.due("output", bench.output(), "7\ne4\ne5\ne4\ne1\n7\ne5\n");
        int s = bench.tongue.function(2, 4);
        Bench.due("links, hits, pruned, entries", bench.site(s, 6, 9), "3 4 0 3");
        Bench.due("entry of o", bench.entry(s, 2), "0 3 0 0 -1 0");
        Bench.due("entry of none", bench.entry(s, 1), "0 0 -1 -1 -1 0");
    }

    private static void calls() {
        Bench.about("CALL");
        Bench bench = Bench.ran("fun mk() { return fun (a, b) { return this == null && b == null; }; } f = mk(); g = mk();"
                + " g.x = 1; fun c(x) { try { return x(1); } catch (e) { return e; } } print(c(f)); print(c(g));"
                + " print(c({})); print(c([])); print(c(null)); print(c(c)); print(f(1, 2, 3));");
        Bench.due("output", bench.output(), "true\ntrue\n5\n5\n3\n3\nfalse\n");
        int s = -1;
        for (int k = 0; k < bench.tongue.count(6); k++) {
            s = bench.tongue.site(k, 3) == 3 ? k : s;
        }
        Bench.due("the site", bench.site(s, 6, 10), "2 1 0 2 0");
        Bench.due("a guard for the function alone", bench.entry(s, 1), "0 2 -1 -1 -1 0");
        Bench.due("what is left out", Bench.ran("fun f(a) { var b; return b; } return f(1, 2);").end(0), "2 0 0");
    }

    private static void news() {
        Bench.about("NEW of a fun");
        Bench bench = Bench.ran("fun F(a) { this.a = a; return 9; } fun N(f) { try { return new f(3); } catch (e) {"
                + " return e; } } o = N(F); print(o.a); F[\"proto\"] = { b: 4 }; p = N(F); print(p.b); print(p == o);"
                + " print(N({})); print(N([])); print(N(1)); print(N(\"x\"));"
                + " fun R() { return { r: 1 }; } q = N(R); print(q.r); fun L() { return [1]; } print(kind(N(L)));"
                + " fun G() { return F; } print(kind(N(G))); F[\"proto\"] = 5; print(proto(N(F)));"
                + " turn(R, F); print(proto(N(G))); F[\"proto\"] = L; turn(G, F); print(proto(N(G)));");
        Bench.due("output", bench.output(),
                "3\n4\nfalse\n5\n5\n3\n5\n1\nobject\nobject\nnull\nnull\nfun\n");
        Bench.due("thing of o", bench.tongue.thing(2, 0) + " " + bench.tongue.thing(2, 2), "0 -1");
        int s = -1;
        for (int k = 0; k < bench.tongue.count(6); k++) {
            s = bench.tongue.site(k, 0) == 6 ? k : s;
        }
        Bench.due("the site", bench.site(s, 0, 2) + " " + bench.site(s, 6, 10), "6 -1 1 4 4 0 4 0");
        Bench.due("an entry", bench.entry(s, 3), "0 1 -1 -1 -1 0");
        bench = Bench.ran("fun F() { } o = new F();");
        Bench.due("proto becomes no name", bench.tongue.count(8), 2);
    }

    private static void listsAndTexts() {
        Bench.about("lists and texts");
        Bench bench = Bench.ran("l = [1]; print(l.push(5)); print(l.size); print(l[1]); l[2] = 7; l[0] = 4; print(l.pop());"
                + " print(l[0]); l.pop(); l.pop(); print(l.pop()); print(l.size); t = \"hello\"; print(t.size); print(t[1]);"
                + " print(t.sub(1, 3)); print(t.sub(5, 5).size); print(t.sub(0, 5) == t); print(\"\".size);");
        Bench.due("output", bench.output(), "2\n2\n5\n7\n4\nnull\n0\n5\ne\nel\n0\ntrue\n0\n");
        Bench.due("asked", bench.tongue.count(23), bench.tongue.count(6));
        String[] wrongs = {"l.x", "4", "l.x = 1", "5", "l.push", "4", "l.push()", "4", "l.push(1, 2)", "4", "l.pop(1)", "4",
            "l.size()", "4", "l.sub(0, 1)", "4", "l.size = 1", "5", "l()", "5", "new l()", "5", "l[3]", "6", "l[-1]", "6",
            "l[\"0\"]", "6", "l[null]", "6", "l[4] = 1", "6", "l[-1] = 1", "6", "l[null] = 1", "6", "t.x", "4", "t.sub", "4",
            "t.sub(1)", "4", "t.push(1)", "4", "t.size()", "4", "t.x = 1", "5", "t()", "5", "new t()", "5", "t[0] = \"x\"", "5",
            "t[3]", "6", "t[-1]", "6", "t[\"0\"]", "6", "t.sub(2, 1)", "6", "t.sub(-1, 1)", "6", "t.sub(0, 4)", "6",
            "t.sub(0, null)", "6", "t.sub(\"0\", 1)", "6", "null.a", "3", "true.a = 1", "3", "(1).m()", "3", "false[0]", "3",
            "null()", "3", "new 7()", "3", "null[1] = 2", "3", "l[b]", "6", "t[b]", "6", "l[b] = 1", "6", "t[m]", "6",
            "l[m]", "6", "t.sub(m, m)", "6", "t.sub(0, b)", "6"};
        for (int i = 0; i < wrongs.length; i += 2) {
            Bench one = Bench.ran("l = [1, 2, 3]; t = \"abc\"; b = 2147483647 * 2 + 2; m = b * b / 2 - 1;"
                    + " try { " + wrongs[i] + "; } catch (e) { print(e); }");
            Bench.due(wrongs[i], one.output(), wrongs[i + 1] + "\n");
            boolean links = wrongs[i + 1].equals("6");
            Bench.due("links of " + wrongs[i], one.tongue.site(one.tongue.count(6) - 1, 6), links ? 1 : 0);
            Bench.due("asked of " + wrongs[i], one.tongue.count(23), wrongs[i + 1].equals("3") ? 0 : 1);
        }
        bench = Bench.ran("fun g(x) { return x.size; } g([]); g(\"a\"); g([1]); g(\"bc\"); fun e(x) { return x[0]; }"
                + " e(\"a\"); e([1]); e({}) ;");
        Bench.due("entries by list and text", bench.entry(bench.tongue.function(1, 4), 0) + ", "
                + bench.entry(bench.tongue.function(1, 4), 1), "3 1 -1 -1 -1 0, 3 0 -1 -1 -1 0");
        Bench.due("the site", bench.site(bench.tongue.function(1, 4), 6, 9), "2 2 0 2");
        Bench.due("ERROR 6 of an object links nothing", bench.site(bench.tongue.function(2, 4), 6, 9), "2 0 0 2");
    }

    private static void hostEntries() {
        Bench.about("entries of hosts");
        String host = "class A { int a; static Any s; int getB(); bool isC(); void setD(int); void setD(Any);"
                + " int m(int); int m(Any...); new (); new (int); }";
        Bench bench = Bench.ran(host, "A = host(\"A\"); o = new A(3); o.a; o.b; o.c; o.d = 1; o.a = 4; o.m(1); o.m(1, 2);"
                + " A.s; A.s = 2; new A();");
        String[] want = {"2 0 -1 9 -1 0", "1 0 -1 0 -1 0", "1 0 -1 2 -1 0", "1 0 -1 3 -1 0", "1 0 -1 5 -1 0",
            "1 0 -1 0 -1 0", "1 0 -1 6 -1 0", "1 0 -1 7 -1 0", "2 0 -1 1 -1 0", "2 0 -1 1 -1 0", "2 0 -1 8 -1 0"};
        for (int s = 0; s < want.length; s++) {
            Bench.due("entry of site " + s, bench.entry(s, 0), want[s]);
            Bench.due("site " + s, bench.site(s, 6, 10), "1 0 0 1 0");
        }
        Bench.due("asked", bench.tongue.count(21) + " " + bench.tongue.count(22), "7 4");

        Bench.about("guards of hosts");
        bench = Bench.ran(host, "o = new (host(\"A\"))(3); v = [1, 2, null, \"x\", null, true, 2147483647 + 1, 2147483647];"
                + " i = 0; while (i < v.size) { o.d = v[i]; o.a; i = i + 1; } i = 0;"
                + " while (i < v.size) { try { o.a = v[i]; } catch (e) { print(e); } i = i + 1; } print(o.a);");
        Bench.due("SET by methods asks for the class of its ES", bench.site(3, 6, 9), "6 2 0 4");
        Bench.due("SET of a field does not", bench.site(7, 6, 9), "1 7 0 1");
        Bench.due("output", bench.output(), "7\n7\n7\n7\n7\n2147483647\n");
        bench = Bench.ran("class A { int a; new (); } class B : A { new (); }", "fun g(x) { return x.a; }"
                + " A = host(\"A\"); B = host(\"B\"); g(new A()); g(new B()); g(new A()); g(new B());");
        Bench.due("GET asks for the class alone", bench.site(bench.tongue.function(1, 4), 6, 9), "2 2 0 2");
    }

    private static void errorsLinkNothing() {
        Bench.about("ERRORS 4, 5, 8 and 9 of hosts");
        String host = "class A { int a; void m(int, long); void m(long, int); new (); } class B { } interface I { void m(); }";
        String[] wrongs = {"o.zz", "4", "o.zz = 1", "4", "o.zz()", "4", "o[\"a\"]", "5", "o[\"a\"] = 1", "5", "o()", "5",
            "new o()", "5", "o.m(1, 1)", "8", "o.m()", "9", "o.m(\"x\", 1)", "9", "A.a", "4", "A.a = 1", "4", "A.m(1, 1)", "4",
            "A()", "5", "A[\"a\"]", "5", "A[0] = 1", "5", "new A(1)", "9", "new (host(\"B\"))()", "4",
            "new (host(\"I\"))()", "4", "host(\"I\").m()", "4", "o.a()", "4", "o.m", "4"};
        for (int i = 0; i < wrongs.length; i += 2) {
            Bench one = Bench.ran(host, "A = host(\"A\"); o = new A(); try { " + wrongs[i] + "; } catch (e) { print(e); }");
            Bench.due(wrongs[i], one.output(), wrongs[i + 1] + "\n");
            Bench.due("links of " + wrongs[i], one.tongue.site(one.tongue.count(6) - 1, 6), 0);
            Bench.due("asked of " + wrongs[i], one.tongue.count(21) + one.tongue.count(22), 2);
            Bench.due("trace of " + wrongs[i], one.tongue.count(16), 2);
        }
    }

    private static void wrongArguments() {
        Bench.about("promises 11, 19, 20 and 21, wrong arguments");
        Bench bench = Bench.ran("o = { a: 1 }; o.a; l = [];");
        Face tongue = bench.tongue;
        int[] none = {tongue.entry(-1, 0, 0), tongue.entry(2, 0, 0), tongue.entry(0, -1, 0), tongue.entry(0, 1, 0),
            tongue.entry(0, Integer.MAX_VALUE, 0), tongue.entry(0, 0, -1), tongue.entry(0, 0, 6), tongue.thing(-1, 0),
            tongue.thing(2, 0), tongue.thing(0, -1), tongue.thing(0, 6), tongue.shape(-1, 0), tongue.shape(2, 1),
            tongue.shape(1, -1), tongue.shape(1, 3), tongue.shape(1, Integer.MAX_VALUE), tongue.shape(0, 2),
            tongue.thing(1, 1), tongue.thing(1, 5)};
        for (int i = 0; i < none.length; i++) {
            Bench.due("call " + i, none[i], -1);
        }
        int[][] wrongs = {{-1, 0, 0}, {2, 0, 0}, {0, -1, 0}, {0, 1, 0}, {0, 0, -1}, {0, 0, 3}, {1, 0, 0}};
        for (int[] w : wrongs) {
            int threw = 0;
            try {
                tongue.property(w[0], w[1], w[2]);
            } catch (IndexOutOfBoundsException e) {
                threw = e.getClass() == IndexOutOfBoundsException.class ? 1 : 2;
            }
            Bench.due("property(" + w[0] + ", " + w[1] + ", " + w[2] + ") throws", threw, 1);
        }
    }
}
