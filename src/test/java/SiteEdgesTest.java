/** Promises 10, 11 and 19 to 21 and terms 5 to 7, sentence by sentence: things, shapes, sites and their entries. */
public final class SiteEdgesTest {
    private static final int[] FAR = {Integer.MIN_VALUE, -2, -1, Integer.MAX_VALUE};

    public static void main(String[] args) {
        thing();
        property();
        shape();
        shapeZero();
        drops();
        turns();
        epochs();
        watched();
        noneAtFirst();
        pruning();
        pruningAtTheHead();
        fourEntries();
        nineLinks();
        ninthWithStaleOnes();
        megamorphicErrors();
        whatLinksNothing();
        whatComesBehindAnEntry();
        guardsOfDifferentLinkers();
        guardsOfCalls();
        guardsOfElements();
        memberZero();
        setOfOneMore();
        staleOnesOfProto();
        behindANewHost();
        valuesAreRead();
        lists();
        texts();
        elementTexts();
        newOfFuns();
        asked();
        wrongStays();
        sitesMeet();
        Bench.end();
    }

    /** What an expression prints, or the ERROR that it is. */
    private static void prints(String head, String... wants) {
        for (int i = 0; i < wants.length; i += 2) {
            Bench bench = Bench.ran(head + " try { print(" + wants[i] + "); } catch (e) { print(\"e\" + e); }");
            Bench.due(wants[i], bench.output(), wants[i + 1] + "\n");
            Bench.due("WRONG", bench.tongue.count(17), 0);
        }
    }

    private static String answers(Bench bench, int k, int i, int what) {
        return Bench.answer(() -> bench.tongue.property(k, i, what));
    }

    private static void thing() {
        Bench.about("promise 19: NONE for another k or what");
        Bench bench = Bench.ran("class A { int a; new (); }",
                "o = { a: 1 }; p = make(o); fun f() { } f.x = 1; l = [1, 2]; i = new (host(\"A\"))();");
        String[] want = {"0 1 -1 1 0 -1", "0 2 0 0 -1 -1", "1 3 -1 1 -1 1", "2 -1 -1 2 -1 -1", "3 -1 -1 0 -1 -1"};
        for (int k = 0; k < want.length; k++) {
            Bench.due("thing(" + k + ")", bench.thing(k), want[k]);
            for (int what : new int[] {-2, -1, 6, 7, Integer.MIN_VALUE, Integer.MAX_VALUE}) {
                Bench.due("thing(k, " + what + ")", bench.tongue.thing(k, what), -1);
            }
        }
        Bench.due("behind the last", bench.thing(5), "-1 -1 -1 -1 -1 -1");
        for (int far : FAR) {
            Bench.due("thing(far)", bench.thing(far), "-1 -1 -1 -1 -1 -1");
        }
        Bench.due("host classes are none of them", bench.tongue.count(10), 5);
    }

    private static void property() {
        Bench.about("promise 20: IndexOutOfBoundsException: there is none such, or no such what");
        Bench bench = Bench.ran("class A { int a; static int b; new (); } class B { new (); }",
                "o = { a: 1, b: \"xy\", c: null }; e = {}; l = [o, true]; m = [];"
                + " i = new (host(\"A\"))(); n = new (host(\"B\"))(); f = fun () { };");
        int[] sizes = {3, 0, 2, 0, 1, 0, 0};
        for (int k = 0; k < sizes.length; k++) {
            for (int i = 0; i <= sizes[k]; i++) {
                for (int what = 0; what <= 2; what++) {
                    Bench.due("property(" + k + ", " + i + ", " + what + ")", answers(bench, k, i,
                            what).equals("IndexOutOfBoundsException"), i == sizes[k]);
                }
                for (int what : new int[] {-1, 3, 4, Integer.MIN_VALUE, Integer.MAX_VALUE}) {
                    Bench.due("property(k, i, " + what + ")", answers(bench, k, i, what), "IndexOutOfBoundsException");
                }
            }
            for (int far : FAR) {
                Bench.due("property(k, far, 0)", answers(bench, k, far, 0), "IndexOutOfBoundsException");
                Bench.due("property(far, 0, 0)", answers(bench, far, 0, 0), "IndexOutOfBoundsException");
            }
        }
        Bench.due("behind the last thing", answers(bench, 7, 0, 0), "IndexOutOfBoundsException");
        Bench.due("values", bench.properties(0) + "; " + bench.properties(2), "2 1 1, 3 2 2, 0 0 3; 4 0 -1, 1 1 -1");
    }

    private static void shape() {
        Bench.about("promise 21: NONE for another k or what");
        Bench bench = Bench.ran("o = { a: 1, b: 2 }; p = make(o); p.b = 1;");
        String[] want = {"-1", "-1 a", "-1 a b", "0", "0 b"};
        for (int k = 0; k < want.length; k++) {
            Bench.due("shape(" + k + ")", bench.shape(k), want[k]);
            int size = bench.tongue.shape(k, 1);
            for (int what : new int[] {-2, -1, 2 + size, 3 + size, 66, Integer.MIN_VALUE, Integer.MAX_VALUE}) {
                Bench.due("shape(" + k + ", " + what + ")", bench.tongue.shape(k, what), -1);
            }
        }
        for (int what = -1; what < 4; what++) {
            Bench.due("shape(5, " + what + ")", bench.tongue.shape(5, what), -1);
            for (int far : FAR) {
                Bench.due("shape(far)", bench.tongue.shape(far, what), -1);
            }
        }
    }

    private static void shapeZero() {
        Bench.about("term 6: shape 0 is without prototype and without properties");
        Bench bench = Bench.ran("a = {}; fun f() { } c = make(null); d = { x: 1 }; drop(d, \"x\"); e = make(a); turn(e, null); fun g()"
                + " { } h = new g(); k = { x: 1, y: 2 };"
                + " drop(k, \"y\"); drop(k, \"x\"); m = make(a); m.x = 1; turn(m, null); drop(m, \"x\");");
        for (int k = 0; k < bench.tongue.count(10); k++) {
            Bench.due("shape of " + k, bench.tongue.thing(k, 1) + " " + bench.tongue.thing(k, 2) + " " + bench.tongue.thing(k, 3),
                    "0 -1 0");
        }
        String want = "";
        for (int k = 0; k < bench.tongue.count(12); k++) {
            want += bench.shape(k) + ";";
        }
        Bench.due("each is made when it is wanted first", want, "-1;-1 x;0;-1 x y;0 x;");
    }

    private static void drops() {
        Bench.about("term 6: drop: from the shape without names one name after the other, those that stay in their order");
        String head = "o = { a: 1, b: \"two\", c: null, d: true, e: [] }; ";
        String all = "2 1 1, 3 3 2, 0 0 3, 1 1 4, 6 1 5";
        String[] names = {"a", "b", "c", "d", "e"};
        String[] left = {"3 3 2, 0 0 3, 1 1 4, 6 1 5", "2 1 1, 0 0 3, 1 1 4, 6 1 5", "2 1 1, 3 3 2, 1 1 4, 6 1 5",
                "2 1 1, 3 3 2, 0 0 3, 6 1 5", "2 1 1, 3 3 2, 0 0 3, 1 1 4"};
        String[] shapes = {"-1 b|-1 b c|-1 b c d|-1 b c d e", "-1 a c|-1 a c d|-1 a c d e", "-1 a b d|-1 a b d e", "-1 a b c e", ""};
        for (int i = 0; i < names.length; i++) {
            Bench bench = Bench.ran(head + "print(drop(o, \"" + names[i] + "\")); print(o." + names[i] + "); print(drop(o, \"" + names[i]
                    + "\"));");
            Bench.due("printed", bench.output(), "true\nnull\nfalse\n");
            Bench.due("what stays without " + names[i], bench.properties(0), left[i]);
            String made = "";
            for (int k = 6; k < bench.tongue.count(12); k++) {
                made += (k == 6 ? "" : "|") + bench.shape(k);
            }
            Bench.due("shapes made", made, shapes[i]);
            bench.run(0, "o." + names[i] + " = 7; return o." + names[i] + ";");
            String again = left[i] + ", 2 7 " + (i + 1);
            Bench.due("it comes back as the last", bench.properties(0) + " " + bench.end(0), again + " 2 2 7");
        }
        Bench next = Bench.ran("n = { a: 1, b: 2, c: 3 }; o = { a: 4, b: 5, c: 6, d: 7, e: 8 }; p = { a: 9, b: 10, c: 11 }; drop(o,"
                + " \"d\"); drop(o, \"b\"); drop(n, \"b\"); drop(o, \"e\"); drop(n, \"c\");");
        Bench.due("what lies beside it stays", next.properties(0) + "; " + next.properties(1) + "; " + next.properties(2),
                "2 1 1; 2 4 1, 2 6 3; 2 9 1, 2 10 2, 2 11 3");
        Bench bench = Bench.ran(head + "drop(o, \"zz\"); drop(o, \"\"); drop({}, \"a\"); p = make(o); print(drop(p, \"a\"));");
        Bench.due("none of these goes", bench.properties(0) + " " + bench.output(), all + " false\n");
        Bench.due("one shape more", bench.tongue.count(12), 7);
        bench = Bench.ran("o = { a: 1 }; l = o; drop(o, \"a\"); drop(o, \"a\"); o.b = 2; drop(o, \"b\"); o.a = 3; return o.a;");
        Bench.due("from one to none and back", bench.end(0) + " " + bench.properties(0) + " " + bench.tongue.count(12), "2 2 3 2 3 1 3");
    }

    private static void turns() {
        Bench.about("term 6: turn: from the shape without names of its new prototype");
        Bench bench = Bench.ran("p = {}; q = {}; o = { a: 1, b: 2 }; turn(o, p); turn(o, q); turn(o, p); turn(o, null); turn(o, o.zz);"
                + " r = { b: 1 }; turn(r, p); turn(r, q);");
        String made = "";
        for (int k = 0; k < bench.tongue.count(12); k++) {
            made += (k == 0 ? "" : "|") + bench.shape(k);
        }
        Bench.due("shapes", made, "-1|-1 a|-1 a b|0|0 a|0 a b|1|1 a|1 a b|-1 b|0 b|1 b");
        Bench.due("o and r", bench.thing(2) + ", " + bench.thing(3), "0 2 -1 2 -1 -1, 0 11 1 1 -1 -1");
        Bench.about("term 9: turn that would make a ring");
        prints("o = {}; p = make(o); q = make(p); f = fun () { };", "turn(o, o)", "e12", "turn(o, p)", "e12", "turn(o, q)", "e12",
                "turn(p, q)", "e12", "turn(q, o) == q", "true",
                "turn(q, p) == q", "true", "turn(p, null) == p", "true", "turn(f, f)", "e12", "proto(turn(o, f)) == f", "true",
                "turn(turn(f, q), o) == f", "true",
                "turn(o, turn(f, q))", "e12");
        bench = Bench.ran("o = {}; p = make(o); q = make(p); p.a = 1; try { turn(o, q); } catch (e) { print(e); }");
        Bench.due("nothing is changed by it", bench.thing(0) + ", " + bench.tongue.count(12) + " " + bench.output(),
                "0 0 -1 0 0 -1, 4 12\n");
    }

    private static void epochs() {
        Bench.about("term 6: an EPOCH, one more whenever it gets a property more, loses one, or is turned (also to the prototype that"
                + " it has)");
        String[] steps = {"o.a = 1;", "1", "o.a = 2;", "1", "o[\"a\"] = 3;", "1", "o[\"b\"] = 3;", "2", "drop(o, \"c\");", "2",
                "drop(o, \"a\");", "3", "drop(o, \"a\");", "3", "turn(o, null);", "4",
            "turn(o, null);", "5", "turn(o, q);", "6", "turn(o, q);", "7", "try { turn(o, p); } catch (e) { }", "7",
            "try { turn(o, 1); } catch (e) { }", "7", "q.a = 1;", "7", "p.a = 1;", "7",
            "o.a; has(o, \"a\"); proto(o); make(o);", "7", "o = { z: 1 };", "7"};
        Bench bench = Bench.ran("o = {}; p = make(o); q = {}; w = [o];");
        Bench.due("0 at first", bench.tongue.thing(0, 4) + " " + bench.tongue.thing(1, 4), "0 -1");
        // More steps than there are units: in one unit a step each.
        StringBuilder all = new StringBuilder();
        for (int i = 0; i < steps.length; i += 2) {
            all.append(steps[i]).append(' ');
            Bench one = Bench.ran("o = {}; p = make(o); q = {}; w = [o]; " + all);
            Bench.due("behind " + steps[i], one.tongue.thing(0, 4), Integer.parseInt(steps[i + 1]));
        }
    }

    private static void watched() {
        Bench.about("term 6: a thing that is the prototype of a shape is WATCHED");
        Bench bench = Bench.ran("a = {}; a.x = 1; b = {}; make(b); fun f() { } new f(); fun g() { } g[\"proto\"] = a; drop(g,"
                + " \"proto\"); fun h() { } h[\"proto\"] = f; new h();"
                + " c = {}; turn({}, c); d = {}; e = make(d); turn(e, null); d.x = 1;");
        String epochs = "";
        for (int k = 0; k < bench.tongue.count(10); k++) {
            epochs += bench.tongue.thing(k, 4) + " ";
        }
        // Things: a, b, made, f, new one, g, h, new one, c, {}, d, e.
        Bench.due("EPOCHS", epochs, "-1 0 -1 0 -1 -1 -1 -1 0 -1 1 -1 ");
    }

    private static void noneAtFirst() {
        Bench.about("term 7: ENTRIES, at most 4, none at first");
        Bench bench = new Bench();
        bench.compile("o = { a: 1 }; if (null) { o.a; } o.a;");
        Bench.due("not invoked", bench.site(1, 6, 10) + ", " + bench.entry(1, 0), "0 0 0 0 0, -1 -1 -1 -1 -1 -1");
        bench.runUnit(0, 0);
        Bench.due("still not", bench.site(1, 6, 10) + ", " + bench.entry(1, 0), "0 0 0 0 0, -1 -1 -1 -1 -1 -1");
        Bench.due("once", bench.site(2, 6, 10) + ", " + bench.entry(2, 0), "1 0 0 1 0, 0 1 -1 0 -1 0");
        bench.runUnit(0, 0);
        Bench.due("twice", bench.site(2, 6, 10) + ", " + bench.entry(2, 0), "1 1 0 1 0, 0 1 -1 0 -1 0");
    }

    private static String guards(Bench bench, int s) {
        String all = "";
        for (int k = 0; k < bench.tongue.site(s, 9); k++) {
            all += bench.tongue.entry(s, k, 1) + (bench.tongue.entry(s, k, 5) == 1 ? "* " : " ");
        }
        return bench.site(s, 6, 10) + ": " + all.trim();
    }

    private static final String FOUR = "p = [{}, {}, {}, {}, {}]; o = [make(p[0]), make(p[1]), make(p[2]), make(p[3]), make(p[4])]; fun"
            + " g(x) { return x.n; } fun c(i) { p[i].z = 1; drop(p[i], \"z\"); }"
            + " g(o[0]); g(o[1]); g(o[2]); g(o[3]);";

    private static void pruning() {
        Bench.about("term 7: from the first one on, an entry that is STALE goes (it is PRUNED), else if its GUARD holds what it says is done");
        // Shapes 1 .. 5 are those of the prototypes without names.
        Bench bench = Bench.ran(FOUR);
        int s = bench.tongue.function(1, 4);
        Bench.due("four", guards(bench, s), "4 0 0 4 0: 4 3 2 1");
        String[] steps = {"c(2); g(o[3]);", "4 1 0 4 0: 4 3* 2 1", "g(o[1]);", "4 2 1 3 0: 4 2 1", "c(0); c(1); g(o[0]);",
                "5 2 3 2 0: 1 4", "c(3); g(o[0]);", "5 3 3 2 0: 1 4*",
            "try { g(null); } catch (e) { }", "5 3 4 1 0: 1", "c(0); try { g(7); } catch (e) { }", "5 3 5 0 0: ", "g(o[4]);",
            "6 3 5 1 0: 5", "c(4); g(o[4]);", "7 3 6 1 0: 5", "g(o[4]); g(o[4]);", "7 5 6 1 0: 5"};
        for (int i = 0; i < steps.length; i += 2) {
            bench.run(0, steps[i]);
            Bench.due(steps[i], guards(bench, s), steps[i + 1].trim().endsWith(":") ? steps[i + 1].trim() + " " : steps[i + 1]);
        }
        Bench.due("WRONG", bench.tongue.count(17), 0);
    }

    private static void pruningAtTheHead() {
        Bench.about("term 7: several STALE ones, at the head, in the middle and at the end");
        String[] changes = {"c(3);", "c(2);", "c(1);", "c(0);", "c(3); c(2);", "c(3); c(1);", "c(2); c(0);", "c(3); c(2); c(1);",
                "c(2); c(1); c(0);", "c(3); c(2); c(1); c(0);"};
        String[] stale = {"4* 3 2 1", "4 3* 2 1", "4 3 2* 1", "4 3 2 1*", "4* 3* 2 1", "4* 3 2* 1", "4 3* 2 1*", "4* 3* 2* 1",
                "4 3* 2* 1*", "4* 3* 2* 1*"};
        String[] other = {"5 0 1 4 0: 5 3 2 1", "5 0 1 4 0: 5 4 2 1", "5 0 1 4 0: 5 4 3 1", "5 0 1 4 0: 5 4 3 2", "5 0 2 3 0: 5 2 1",
                "5 0 2 3 0: 5 3 1", "5 0 2 3 0: 5 4 2", "5 0 3 2 0: 5 1",
            "5 0 3 2 0: 5 4", "5 0 4 1 0: 5"};
        for (int i = 0; i < changes.length; i++) {
            Bench bench = Bench.ran(FOUR + changes[i]);
            int s = bench.tongue.function(1, 4);
            Bench.due(changes[i], guards(bench, s), "4 0 0 4 0: " + stale[i]);
            bench.run(0, "g(o[4]);");
            Bench.due(changes[i] + " and another one", guards(bench, s), other[i]);
            bench.run(0, "print(g(o[4]));");
            Bench.due("a hit", bench.site(s, 7, 7) + bench.output(), "1null\n");
        }
    }

    private static void fourEntries() {
        Bench.about("term 7: of five the last one goes; that is not PRUNED");
        Bench bench = Bench.ran(FOUR);
        int s = bench.tongue.function(1, 4);
        bench.run(0, "g(o[4]);");
        Bench.due("a fifth", guards(bench, s), "5 0 0 4 0: 5 4 3 2");
        Bench.due("no fifth entry", bench.entry(s, 4), "-1 -1 -1 -1 -1 -1");
        bench.run(0, "g(o[0]);");
        Bench.due("the first anew", guards(bench, s), "6 0 0 4 0: 1 5 4 3");
        bench.run(0, "g(o[2]); g(o[3]); g(o[4]); g(o[0]);");
        Bench.due("hits leave the order", guards(bench, s), "6 4 0 4 0: 1 5 4 3");
        bench.run(0, "c(2); g(o[1]);");
        Bench.due("the last was stale: it is PRUNED", guards(bench, s), "7 4 1 4 0: 2 1 5 4");
    }

    private static void nineLinks() {
        Bench.about("term 7: with the ninth LINK the site is MEGAMORPHIC: no entries from then on, and LINKS no more");
        String head = "fun g(x) { return x.a; } l = []; i = 0; while (i < 11) { l.push({}); l[i][\"n\" + i] = i; l[i].a = 10 * i; i = i"
                + " + 1; } fun to(n) { i = 0; while (i < n) { g(l[i]); i = i + 1; } }";
        String[] wants = {"to(3);", "3 0 0 3 0", "to(4);", "4 0 0 4 0", "to(5);", "5 0 0 4 0", "to(8);", "8 0 0 4 0", "to(8); g(l[7]);",
                "8 1 0 4 0", "to(9);", "9 0 0 0 1", "to(10);", "9 0 0 0 1",
            "to(9); g(l[8]); g(l[8]);", "9 0 0 0 1", "to(8); g(l[4]); to(11);", "9 1 0 0 1"};
        for (int i = 0; i < wants.length; i += 2) {
            Bench bench = Bench.ran(head + wants[i]);
            int s = bench.tongue.function(1, 4);
            Bench.due(wants[i], bench.site(s, 6, 10), wants[i + 1]);
            if (wants[i + 1].endsWith("1")) {
                Bench.due("no entry", bench.entry(s, 0), "-1 -1 -1 -1 -1 -1");
            }
            int asked = bench.tongue.count(20);
            bench.run(1, "q = [l[0].a]; print(g(l[8])); print(g({})); print(g(l[10]));");
            Bench.due("what it gives", bench.output(), "80\nnull\n100\n");
            if (wants[i + 1].endsWith("1")) {
                // The unit's own read and its three calls, and three lookups of the megamorphic one.
                Bench.due("each time there is just a LOOKUP", bench.tongue.count(20) - asked, 1 + 3 + 3);
            }
        }
        Bench.about("term 7: with the ninth LINK what is found is done");
        Bench bench = Bench.ran("fun w(x) { return x.a = 5; } l = []; i = 0; while (i < 10) { l.push({}); l[i][\"n\" + i] = i;"
                + " print(w(l[i])); i = i + 1; }");
        Bench.due("SET", bench.output(), "5\n5\n5\n5\n5\n5\n5\n5\n5\n5\n");
        Bench.due("the site", bench.site(bench.tongue.function(1, 4), 6, 10), "9 0 0 0 1");
        Bench.due("the ninth and the tenth thing", bench.tongue.thing(10, 3) + " " + bench.tongue.thing(11, 3), "2 2");
        bench = Bench.ran("fun c(x) { return x(2); } l = [fun (a) { return a; }, fun (a) { return a + 1; }, fun (a) { return a + 2; },"
                + " fun (a) { return a + 3; }, fun (a) { return a + 4; },"
                + " fun (a) { return a + 5; }, fun (a) { return a + 6; }, fun (a) { return a + 7; }, fun (a) { return a + 8; }, fun (a)"
                + " { return a + 9; }]; i = 0; s = 0;"
                + " while (i < 10) { s = s * 2 + c(l[i]); i = i + 1; } return s;");
        long sum = 0;
        for (int i = 0; i < 10; i++) {
            sum = sum * 2 + 2 + i;
        }
        Bench.due("CALL", bench.end(0) + ", " + bench.site(bench.tongue.function(1, 4), 6, 10), "2 2 " + sum + ", 9 0 0 0 1");
    }

    private static void ninthWithStaleOnes() {
        Bench.about("term 7: those that go by the ninth LINK are not PRUNED");
        Bench bench = Bench.ran(FOUR + " g(o[4]); g(o[0]); g(o[1]); g(o[2]); c(4);");
        int s = bench.tongue.function(1, 4);
        Bench.due("eight", guards(bench, s), "8 0 0 4 0: 3 2 1 5*");
        bench.run(0, "g(o[3]);");
        Bench.due("one was stale, three go", guards(bench, s), "9 0 1 0 1: ");
        bench.run(0, "g(o[3]); c(3); g(o[3]);");
        Bench.due("nothing is stale any more", guards(bench, s), "9 0 1 0 1: ");
        // The entries that went are used again by another site, and this one has none of them.
        bench.run(0, "fun h(x) { return x.n; } h(o[0]); h(o[1]); h(o[2]); g(o[0]);");
        int other = bench.tongue.count(6) - 1;
        for (int k = 0; k < bench.tongue.count(6); k++) {
            other = bench.tongue.site(k, 3) == bench.tongue.count(4) - 1 ? k : other;
        }
        Bench.due("another site", guards(bench, other), "3 0 0 3 0: 3 2 1");
        Bench.due("this one", guards(bench, s), "9 0 1 0 1: ");
    }

    private static void megamorphicErrors() {
        Bench.about("term 7: a MEGAMORPHIC site's LOOKUP makes the same ERRORS");
        Bench bench = Bench.ran("fun g(x) { try { return x.m(1); } catch (e) { return \"e\" + e; } } l = []; i = 0; while (i < 9) {"
                + " l.push({ m: fun (a) { return a; } }); l[i][\"n\" + i] = i; g(l[i]); i = i + 1; }"
                + " print(g(l[0])); print(g({})); print(g({ m: 1 })); print(g({ m: null })); print(g(null)); print(g(1)); print(g([]));"
                + " print(g(\"t\")); print(g(g));");
        int s = 0;
        for (int k = 0; k < bench.tongue.count(6); k++) {
            s = bench.tongue.site(k, 0) == 5 && bench.tongue.site(k, 3) == 1 ? k : s;
        }
        Bench.due("MEGAMORPHIC", bench.site(s, 6, 10), "9 0 0 0 1");
        Bench.due("output", bench.output(), "1\ne4\ne5\ne4\ne3\ne3\ne4\ne4\ne4\n");
    }

    private static void whatLinksNothing() {
        Bench.about("term 7: if that makes an ERROR of 3 to 9 by itself, that is it");
        String host = "class A { int a; void m(Text); void m(Bool); new (int); void setB(Text); void setB(Bool); }";
        String[] wrongs = {"null.a", "3", "true.a = 1", "3", "(1).m()", "3", "false[0]", "3", "null()", "3", "new 7()", "3", "o[1]", "6",
                "o[\"\"] = 1", "6", "o()", "5", "new o()", "5", "l.a", "4", "l.a()", "4",
            "l.pop(1)", "4", "l.push()", "4", "t.a", "4", "t.sub(1)", "4", "l.a = 1", "5", "t.a = 1", "5", "l()", "5", "new t()", "5",
            "t[0] = 1", "5", "i.z", "4", "i.z = 1", "4", "i.z()", "4", "i[0]", "5",
            "i[0] = 1", "5", "i()", "5", "new i()", "5", "i.m(null)", "8", "i.m()", "9", "i.m(1)", "9", "i.b = null", "8", "i.b = 1", "9",
            "A.a", "4", "A.a = 1", "4", "A.m(\"x\")", "4", "A[0]", "5", "A()", "5",
            "new A()", "9", "new A(\"x\")", "9"};
        for (int k = 0; k < wrongs.length; k += 2) {
            Bench bench = new Bench();
            bench.host(host);
            bench.run(0, "A = host(\"A\"); i = new A(1); o = {}; l = []; t = \"t\";");
            int trace = bench.tongue.count(16);
            bench.run(0, "return " + wrongs[k] + ";");
            Bench.due(wrongs[k], bench.end(0), "3 2 " + wrongs[k + 1]);
            int s = bench.tongue.count(6) - 1;
            Bench.due("no LINK of " + wrongs[k], bench.site(s, 6, 10) + ", " + bench.entry(s, 0), "0 0 0 0 0, -1 -1 -1 -1 -1 -1");
            Bench.due("no shape, thing or trace by " + wrongs[k], bench.tongue.count(12) + " " + bench.tongue.count(10) + " "
                    + bench.tongue.count(16), "1 3 " + trace);
        }
    }

    private static void whatComesBehindAnEntry() {
        Bench.about("term 7: ERROR 4 or 5 of a METHOD of an object or fun, 6 of a list or text, and 7 of a field come behind an entry"
                + " that was made or held");
        String host = "class A { int a; static bool b; new (); }";
        String[] wrongs = {"o.m()", "4", "o.n()", "5", "o.k()", "4", "f.m(1)", "4", "l[1]", "6", "l[-1]", "6", "l[\"0\"]", "6", "l[2] = 1",
                "6", "l[null] = 1", "6", "t[1]", "6", "t[-1]", "6", "t[null]", "6",
            "t.sub(0, 2)", "6", "t.sub(1, 0)", "6", "t.sub(null, 0)", "6", "i.a = null", "7", "i.a = \"x\"", "7", "A.b = 1", "7"};
        for (int k = 0; k < wrongs.length; k += 2) {
            Bench bench = new Bench();
            bench.host(host);
            bench.run(0, "A = host(\"A\"); i = new A(); o = { n: 1, k: null }; f = fun () { }; l = [0]; t = \"t\"; r = 0; j = 0;");
            bench.compile("while (j < 3) { try { " + wrongs[k] + "; } catch (e) { r = r * 10 + e; } j = j + 1; }");
            bench.runUnit(0, 1);
            Bench.due(wrongs[k], bench.global("r"), "2 " + wrongs[k + 1].repeat(3));
            int s = bench.tongue.count(6) - 1;
            Bench.due("one LINK, two HITS of " + wrongs[k], bench.site(s, 6, 10), "1 2 0 1 0");
        }
    }

    private static void guardsOfDifferentLinkers() {
        Bench.about("term 7: GUARDS of different linkers that ask for the same number");
        // Shape 0, class 0, host class 0, list 0; shape 1, class 1, host class 1, text 1.
        String host = "class A { int size; int pop(); static bool q; new (); } class B { new (); Any getSize(); static Text"
                + " getSize(Any); static Text s(); int pop(Any...); static int size; static int pop(Any, Any); }";
        String head = "A = host(\"A\"); B = host(\"B\"); v = [{}, new A(), A, [7], { size: 5 }, new B(), B, \"text\", fun () { }];"
                + " fun g(x) { try { return x.size; } catch (e) { return \"e\" + e; } } fun m(x) { try { return x.pop(); } catch (e) {"
                + " return \"e\" + e; } }"
                + " fun e(x) { try { return x[0]; } catch (e) { return \"e\" + e; } } fun w(x) { try { return x.q = true; } catch (e) {"
                + " return \"e\" + e; } }";
        String[] sizes = {"null", "0", "e4", "1", "5", "B@4", "0", "4", "null"};
        String[] pops = {"e4", "1", "e4", "7", "e4", "8", "e9", "e4", "e4"};
        String[] elements = {"e6", "e5", "e5", "7", "e6", "e5", "e5", "t", "e6"};
        String[] writes = {"true", "e4", "true", "e5", "true", "e4", "e4", "e5", "true"};
        boolean[] links = {true, true, false, true, true, true, true, true, true};
        for (int i = 0; i < sizes.length; i++) {
            for (int j = 0; j < sizes.length; j++) {
                Bench bench = new Bench();
                Bench.due("host()", bench.host(host), 0);
                bench.run(0, head + " print(g(v[" + i + "])); print(g(v[" + j + "])); print(e(v[" + i + "])); print(e(v[" + j
                        + "])); print(m(v[" + i + "])); print(m(v[" + j + "]));"
                        + " print(w(v[" + i + "])); print(w(v[" + j + "])); g(v[" + i + "]); g(v[" + j + "]);");
                boolean popped = i == 3 && j == 3;
                Bench.due("of " + i + " and " + j, bench.output(), sizes[i] + "\n" + sizes[j] + "\n" + elements[i] + "\n" + elements[j]
                        + "\n" + pops[i] + "\n"
                        + (popped ? "null" : pops[j]) + "\n" + writes[i] + "\n" + writes[j] + "\n");
                int s = bench.tongue.function(2, 4);
                boolean same = i == j || i == 0 && j == 8 || i == 8 && j == 0;
                int made = (links[i] ? 1 : 0) + (links[j] && !same ? 1 : 0);
                if (i != 0 && i != 4 && i != 8 && j != 0 && j != 4 && j != 8) {
                    Bench.due("LINKS of " + i + " and " + j, bench.tongue.site(s, 6), made);
                }
                Bench.due("WRONG", bench.tongue.count(17), 0);
            }
        }
    }

    private static void guardsOfCalls() {
        Bench.about("term 7: for CALL and NEW the function of the fun alone");
        // Functions: the unit's own 0, c 1, n 2, mk 3, the one in it 4, other 5; classes A 0 .. F 5.
        String host = "class A { new (); } class B { new (); } class C { new (); } class D { new (); } class E { new (); } class F {"
                + " new (); }";
        Bench bench = Bench.ran(host, "fun c(x) { return x(); } fun n(x) { return new x(); } fun mk() { return fun () { this_ = 1;"
                + " return 4; }; } fun other() { return 5; } f = mk(); g = mk();"
                + " g.x = 1; g[\"proto\"] = { y: 6 }; print(c(f)); print(c(g)); print(c(other)); print(c(f)); print(n(f));"
                + " print(n(g).y); print(n(host(\"E\"))); print(n(host(\"F\"))); print(n(other)); print(n(f).y);"
                + " print(n(g).y); print(n(host(\"E\")));");
        Bench.due("output", bench.output().replace("\n", " "), "4 4 5 4 {} 6 E@9 F@10 {} null 6 E@14 ");
        int c = bench.tongue.function(1, 4);
        int n = bench.tongue.function(2, 4);
        Bench.due("CALL", guards(bench, c), "2 2 0 2 0: 5 4");
        Bench.due("NEW", guards(bench, n), "4 4 0 4 0: 5 5 4 4");
        Bench.due("its linkers", bench.tongue.entry(n, 0, 0) + " " + bench.tongue.entry(n, 1, 0) + " " + bench.tongue.entry(n, 2, 0) + " "
                + bench.tongue.entry(n, 3, 0), "0 2 2 0");
        Bench.due("what they say", bench.entry(n, 0) + ", " + bench.entry(n, 1) + ", " + bench.entry(c, 0),
                "0 5 -1 -1 -1 0, 2 5 -1 5 -1 0, 0 5 -1 -1 -1 0");
    }

    private static void guardsOfElements() {
        Bench.about("term 7: for elements also the text");
        Bench bench = Bench.ran("fun g(x, k) { return x[k]; } fun w(x, k, v) { return x[k] = v; } o = { a: 1, b: 2 }; p = { a: 3, b: 4"
                + " }; print(g(o, \"a\")); print(g(o, \"b\")); print(g(p, \"a\"));"
                + " print(g(p, \"\" + \"b\")); print(g(o, \"ab\"[0])); print(g(o, \"c\")); print(g(p, \"c\")); print(w(o, \"a\", 5));"
                + " print(w(o, \"b\", 6)); print(w(p, \"a\", 7)); print(w(o, \"c\", 8));"
                + " print(w(p, \"c\", 9)); print(o.a + o.b * 10 + o.c * 100 + p.a * 1000 + p.c * 10000);");
        Bench.due("output", bench.output().replace("\n", " "), "1 2 3 4 1 null null 5 6 7 8 9 97865 ");
        Bench.due("GET ELEMENT", guards(bench, bench.tongue.function(1, 4)), "3 4 0 3 0: 2 2 2");
        Bench.due("SET ELEMENT", guards(bench, bench.tongue.function(2, 4)), "3 2 0 3 0: 2 2 2");
        Bench.due("what they say", bench.entry(bench.tongue.function(1, 4), 0) + ", " + bench.entry(bench.tongue.function(1, 4), 1) + ", "
                + bench.entry(bench.tongue.function(2, 4), 0),
                "0 2 -1 -1 -1 0, 0 2 -1 1 -1 0, 0 2 -1 -1 3 0");
    }

    private static void memberZero() {
        Bench.about("promise 11: which property, field's or method's member it is, from 0 on");
        String[] hosts = {"class A { int a; new (); }", "o.a", "1 0 -1 0 -1 0", "class A { int a; new (); }", "o.a = 1", "1 0 -1 0 -1 0",
                "class A { int getA(); new (); }", "o.a", "1 0 -1 0 -1 0",
            "class A { bool isA(); new (); }", "o.a", "1 0 -1 0 -1 0", "class A { void setA(Any); new (); }", "o.a = 1", "1 0 -1 0 -1 0",
            "class A { void m(); new (); }", "o.m()", "1 0 -1 0 -1 0",
            "class A { new (); }", "new A()", "2 0 -1 0 -1 0", "class A { static int a; new (); }", "A.a", "2 0 -1 0 -1 0",
            "class A { static int a; new (); }", "A.a = 1", "2 0 -1 0 -1 0",
            "class A { static void m(int...); new (); }", "A.m(1, 2)", "2 0 -1 0 -1 0", "class A { static void setA(int); new (); }",
            "A.a = 1", "2 0 -1 0 -1 0"};
        for (int i = 0; i < hosts.length; i += 3) {
            Bench bench = Bench.ran(hosts[i], "A = host(\"A\"); o = new A(); i = 0; while (i < 3) { " + hosts[i + 1] + "; i = i + 1; }");
            Bench.due(hosts[i] + " " + hosts[i + 1], bench.entry(bench.tongue.count(6) - 1, 0), hosts[i + 2]);
            Bench.due("the site", bench.site(bench.tongue.count(6) - 1, 6, 10), "1 2 0 1 0");
        }
    }

    private static void setOfOneMore() {
        Bench.about("promise 11: the shape that a SET of one more comes to (NONE)");
        Bench bench = Bench.ran("fun w(x) { x.a = 1; } o = {}; w(o); w(o); p = make(o); w(p); w({}); q = make(o); w(q); w(q);");
        int s = bench.tongue.function(1, 4);
        Bench.due("the site", guards(bench, s), "4 2 0 4 0: 3 2 1 0");
        Bench.due("entries", bench.entry(s, 0) + ", " + bench.entry(s, 1) + ", " + bench.entry(s, 2) + ", " + bench.entry(s, 3),
                "0 3 -1 0 -1 0, 0 2 -1 -1 3 0, 0 1 -1 0 -1 0, 0 0 -1 -1 1 0");
        Bench.about("term 7: a SET goes through no prototype: it is never STALE");
        bench = Bench.ran("o = {}; fun w(x) { x.a = 1; } w(make(o)); o.z = 1; o.a = 2; turn(o, null); w(make(o)); w(make(o));");
        Bench.due("nothing STALE", guards(bench, bench.tongue.function(1, 4)), "1 2 0 1 0: 1");
    }

    private static void staleOnesOfProto() {
        Bench.about("term 7: STALE when the EPOCH of one of the prototypes gone through in its lookup (up to the one that has it, or"
                + " all) is another one than it was then");
        String head = "a = { z: 0 }; b = make(a); c = make(b); d = make(c); fun g(x) { return x.n; } fun z(x) { return x.z; } fun"
                + " own(x) { return x.own; } c.n = 1; d.own = 2; g(d); z(d); own(d); ";
        String[] changes = {"d.k = 1;", "000", "c.k = 1;", "110", "b.k = 1;", "010", "a.k = 1;", "010", "a.z = 1;", "000", "c.n = 2;",
                "000", "drop(a, \"z\");", "010", "drop(b, \"z\");", "000", "turn(a, null);", "010",
            "turn(b, a);", "010", "turn(c, b);", "110", "turn(d, c);", "000", "drop(c, \"n\"); c.n = 1;", "110",
            "turn(c, null); turn(c, b);", "110", "drop(d, \"own\");", "000", "make(d);", "000",
            "try { turn(a, d); } catch (e) { }", "000", "b[\"q\"] = 1;", "010", "b[\"q\"] = 1; drop(b, \"q\");", "010"};
        for (int i = 0; i < changes.length; i += 2) {
            Bench bench = Bench.ran(head + changes[i]);
            String stale = "" + bench.tongue.entry(bench.tongue.function(1, 4), 0, 5) + bench.tongue.entry(bench.tongue.function(2, 4), 0,
                    5) + bench.tongue.entry(bench.tongue.function(3, 4), 0, 5);
            Bench.due("STALE by " + changes[i], stale, changes[i + 1]);
            bench.run(0, "g(d); z(d); own(d);");
            for (int f = 1; f <= 3; f++) {
                Bench.due("PRUNED by " + changes[i] + " " + f, bench.tongue.site(bench.tongue.function(f, 4), 8), changes[i
                        + 1].charAt(f - 1) - '0');
            }
            Bench.due("WRONG", bench.tongue.count(17), 0);
        }
        Bench bench = Bench.ran("a = {}; b = make(a); fun g(x) { return x.n; } g(b); a.k = 1; g(b); a.k = 2; g(b); g(b);");
        Bench.due("linked anew it holds", guards(bench, bench.tongue.function(1, 4)), "2 2 1 1 0: 1");
    }

    private static void behindANewHost() {
        Bench.about("promise 3, terms 6 and 7: things, EPOCHS and entries begin anew with a host");
        String run = "a = {}; b = {}; o = make(a); w = make(b); fun g(x) { return x.n; } g(o); g(w); b.z = 1; b.y = 2; g(o); g(w); a.n"
                + " = 4; print(g(o)); i = 0; while (i < 9) { o[\"k\" + i] = i; w[\"k\" + i] = -i; a[\"k\" + i] = [i];"
                + " b[\"k\" + i] = o; i = i + 1; } f = fun (x) { return fun () { return x; }; }; h = f(6); f(7); print(h()); l = [1];"
                + " l.push(2); m = [3]; l.push(4); m.push(5); print(l[2]);";
        String before = "i = 0; while (i < 12) { o = make({ n: i }); j = 0; while (j < 40) { proto(o)[\"x\" + j] = o[\"y\" + j] = j;"
                + " drop(o, \"y3\"); j = j + 1; } p = [o]; q = fun () { return o; }; o.x1; p.push(o); p.push(1); i = i + 1; }";
        Bench.due("the run before it", Bench.ran(before).end(0), "2 0 0");
        Bench.due("as on a new object", Bench.all(() -> behind(before, run)), Bench.all(() -> Bench.ran(run)));
        Bench.due("behind a host more", Bench.all(() -> behind(before, run, run)), Bench.all(() -> Bench.ran(run)));
        Bench.due("output", behind(before, run).output(), "4\n6\n4\n");
        Bench bench = behind(before, run, "o = {}; o.a;");
        Bench.due("behind the last of less", bench.tongue.entry(1, 0, 0) + " " + bench.tongue.entry(2, 0, 5) + " " + bench.tongue.site(1,
                9) + " " + bench.tongue.code(1, 0, 0) + " " + Bench.answer(() -> bench.tongue.property(1, 0, 0)) + " "
                + bench.tongue.shape(1, 1), "-1 -1 -1 -1 IndexOutOfBoundsException -1");
    }

    /** A new object that has run some units, each with a host of its own. */
    private static Bench behind(String... units) {
        Bench bench = new Bench();
        for (String unit : units) {
            bench.host("");
            bench.run(0, unit);
        }
        return bench;
    }

    private static void valuesAreRead() {
        Bench.about("term 7: values may change: they are read when it is invoked");
        prints("p = { n: 1, m: fun () { return 1; } }; o = make(p); fun g(x) { return x.n; } fun c(x) { return x.m(); } g(o); c(o); p.n"
                + " = \"two\"; p.m = fun () { return \"three\"; };",
                "g(o)", "two", "c(o)", "three", "g(o) == p.n", "true");
        prints("p = { n: 1 }; o = make(p); fun g(x) { return x.n; } r = \"\"; i = 0; while (i < 4) { p.n = [i, null, true, \"t\"][i]; r"
                + " = r + g(o); i = i + 1; }", "r", "0nulltruet");
        Bench bench = Bench.ran("class A { int a; static int b; new (); }",
                "A = host(\"A\"); o = new A(); i = 0; while (i < 3) { o.a = i; A.b = 10 * i; print(o.a + A.b); i = i + 1; }");
        Bench.due("of fields", bench.output(), "0\n11\n22\n");
    }

    private static void lists() {
        Bench.about("term 7: a LIST");
        String head = "l = [4, 5]; c = 2147483647 + 1; b = c * 2; m = c * c * 2 - 1; e = [];";
        prints(head, "l[0]", "4", "l[1]", "5", "l[2]", "e6", "l[-1]", "e6", "l[b]", "e6", "l[b + 1]", "e6", "l[-b]", "e6", "l[m]", "e6",
                "l[-m - 1]", "e6", "l[\"0\"]", "e6", "l[null]", "e6", "l[true]", "e6", "l[l]", "e6", "e[0]", "e6",
                "l[0] = 7", "7", "l[1] = 7", "7", "l[2] = 7", "7", "l[3] = 7", "e6", "l[-1] = 7", "e6", "l[b] = 7", "e6", "l[b + 2] = 7",
                "e6", "l[m] = 7", "e6", "l[\"2\"] = 7", "e6", "l[null] = 7", "e6", "e[0] = 7", "7", "e[1] = 7", "e6",
                "l.push(9)", "3", "e.push(null)", "1", "l.pop()", "5", "e.pop()", "null", "e.pop() == null", "true", "l.size", "2",
                "e.size", "0", "l.pop() + l.pop() + l.size", "9", "(l[2] = 6) + l[2] + l.size", "15",
                "l.push(l) + l.size", "6", "l.pop() == 5 && l.size == 1 && l.pop() == 4 && l.pop() == null && l.size == 0", "true",
                "[1, [2, 3]][1][1]", "3", "l.push(null) == 3 && l[2] == null", "true",
                "(l[0] = null) == l[0]", "true", "l.size == l.push(1) - 1", "true");
        Bench end = new Bench();
        Bench.due("a SET ELEMENT at the end is one step", end.run(0, "l = []; l[0] = 5;"), 3 + 5 + 2);
        Bench.due("one LINK, no HIT", end.site(0, 6, 9), "1 0 0 1");
        Bench bench = Bench.ran("l = []; l[0] = 1; l[1] = 2; l.pop(); l[1] = 3; l.pop(); l.pop(); l.pop(); l.push(4); return l;");
        Bench.due("its elements", bench.thing(0) + ": " + bench.properties(0), "2 -1 -1 1 -1 -1: 2 4 -1");
        bench = Bench.ran("l = [1]; i = 0; while (i < 3) { l[i] = i; i = i + 1; } r = l[3] = 7; l[4] = l[3] = 8; return r;");
        Bench.due("it goes on behind that", bench.end(0) + " " + bench.properties(0), "2 2 7 2 0 -1, 2 1 -1, 2 2 -1, 2 8 -1, 2 8 -1");
    }

    private static void texts() {
        Bench.about("term 7: a TEXT");
        String head = "t = \"abc\"; e = \"\"; c = 2147483647 + 1; b = c * 2; m = c * c * 2 - 1;";
        prints(head, "t.size", "3", "e.size", "0", "t[0]", "a", "t[2]", "c", "t[3]", "e6", "t[-1]", "e6", "e[0]", "e6", "t[b]", "e6",
                "t[m]", "e6", "t[-m - 1]", "e6", "t[null]", "e6", "t[\"0\"]", "e6", "t.sub(0, 3)", "abc", "t.sub(0, 0)", "",
                "t.sub(3, 3)", "", "t.sub(1, 2)", "b", "t.sub(2, 3)", "c", "t.sub(0, 4)", "e6", "t.sub(4, 4)", "e6", "t.sub(-1, 0)", "e6",
                "t.sub(-1, -1)", "e6", "t.sub(2, 1)", "e6", "t.sub(3, 2)", "e6", "t.sub(0, b)", "e6",
                "t.sub(b, b)", "e6", "t.sub(b, b + 1)", "e6", "t.sub(m, -m)", "e6", "t.sub(m, m)", "e6", "t.sub(0, m)", "e6",
                "t.sub(-m - 1, 0)", "e6", "e.sub(0, 0)", "", "e.sub(0, 1)", "e6", "t.sub(null, 1)", "e6", "t.sub(0, null)", "e6",
                "t.sub(\"0\", 1)", "e6",
                "t.sub(true, 1)", "e6", "t.sub(1, 3).sub(1, 2)", "c", "t.sub(1, 3)[0]", "b", "(t + 1)[3]", "1", "t.sub(1, 3).size", "2",
                "t.sub(0, 0).size", "0", "t.sub(1, 1) == e", "true", "t.sub(0, 3) == t", "true", "t[1] == \"b\"", "true");
        Bench bench = Bench.ran("t = \"\\n\\\"\\\\ ~\"; return t.sub(1, 4) + t[0];");
        Bench.due("its signs", bench.text(0), "\"\\ \n");
    }

    private static void elementTexts() {
        Bench.about("term 7: GET ELEMENT, SET ELEMENT with a text of 1 to 60 signs (else ERROR 6)");
        String sixty = "0123456789".repeat(6);
        String head = "o = {}; f = fun () { }; s = \"" + sixty + "\"; l = s + \"x\"; n = s.sub(0, 0); ";
        String[] wrongs = {"o[n]", "o[l]", "o[1]", "o[null]", "o[true]", "o[o]", "o[n] = 1", "o[l] = 1", "o[0] = 1", "o[null] = 1", "f[n]",
                "f[l]", "f[0]", "f[l] = 1", "o[s + s]", "o[\"\"]", "o[\"\"] = 1"};
        for (String wrong : wrongs) {
            Bench bench = Bench.ran(head + "a = 0; c = \"\"; try { " + wrong + "; } catch (e) { print(e); }");
            Bench.due(wrong, bench.output(), "6\n");
            Bench.due("no NAME, shape or LINK by " + wrong, bench.tongue.count(8) + " " + bench.tongue.count(12) + " "
                    + bench.site(bench.tongue.count(6) - 1, 6, 10), "9 1 0 0 0 0 0");
        }
        prints(head, "o[s]", "null", "o[s] = 1", "1", "(o[s] = 2) + o[s]", "4", "o[\"x\"]", "null", "f[\"x\"] = 3", "3", "f[s]", "null",
                "o[\" \"] = 4", "4", "o[\"\\n\"] = 5", "5", "has(o, s)", "false",
                "(o[s] = null) == null && has(o, s)", "true", "o[\"a\"] == o.a", "true", "(o.a = 1) == o[\"a\"]", "true");
        Bench bench = Bench.ran(head + "o[s]; o[\"\\n\"]; o[\"q\"] = 1; o[\"s\"]; ");
        Bench.due("they are NAMES from then on", bench.name(6) + bench.name(7) + bench.name(8) + bench.tongue.count(8), sixty + "\nq" + 9);
        bench = Bench.ran("l = [1]; t = \"t\"; try { l[\"zz\"]; } catch (e) { print(e); } try { l[\"zz\"] = 1; } catch (e) { print(e);"
                + " } try { t[\"zz\"]; } catch (e) { print(e); } try { null[\"zz\"]; } catch (e) { print(e); }");
        Bench.due("of what is no object or fun none", bench.output() + bench.tongue.count(8), "6\n6\n6\n3\n3");
    }

    private static void newOfFuns() {
        Bench.about("term 7: NEW: an object with the prototype that GET of the name proto gives, if that is an object or fun, else none");
        String head = "fun F(a) { this.a = a; } fun G() { return this; } p = { b: 7 }; q = make(p); ";
        String[] sets = {"", "null", "F[\"proto\"] = p;", "{}7", "F[\"proto\"] = q;", "{}7", "F[\"proto\"] = G;", "funnull",
                "F[\"proto\"] = 1;", "null", "F[\"proto\"] = null;", "null", "F[\"proto\"] = [];", "null",
            "F[\"proto\"] = \"p\";", "null", "F[\"proto\"] = true;", "null", "F.b = 1;", "null", "turn(F, p); p[\"proto\"] = q;", "{}7",
            "turn(F, q); p[\"proto\"] = G;", "funnull",
            "turn(F, q); p[\"proto\"] = G; q[\"proto\"] = null;", "null", "turn(F, q); F[\"proto\"] = 1; q[\"proto\"] = p;", "null",
            "F[\"proto\"] = F;", "funnull", "F[\"proto\"] = p; drop(F, \"proto\");", "null"};
        for (int i = 0; i < sets.length; i += 2) {
            Bench bench = Bench.ran(head + sets[i] + " o = new F(5); r = proto(o); t = \"\"; if (r == null) { t = \"null\"; } else { t"
                    + " = \"\" + o.b; } if (r != null) { if (kind(r) == \"fun\") { t = \"fun\" + t; } else { t = \"{}\" + t; } }"
                    + " print(t); print(o.a); print(kind(o));");
            Bench.due("NEW with " + sets[i], bench.output(), sets[i + 1] + "\n5\nobject\n");
        }
        Bench.about("term 7: the value is what it returns, if that is an OBJECT, else the new one");
        String[] returns = {"{ r: 1 }", "object1", "null", "objectnull", "1", "objectnull", "\"t\"", "objectnull", "[]", "objectnull",
                "fun () { }", "objectnull", "this", "objectnull", "true", "objectnull", "make({ r: 2 })", "object2"};
        for (int i = 0; i < returns.length; i += 2) {
            prints("fun F() { return " + returns[i] + "; } o = new F();", "kind(o) + o.r", returns[i + 1]);
        }
        Bench bench = Bench.ran("class A { new (); }", "fun F() { return new (host(\"A\"))(); } print(kind(new F())); fun G() { return"
                + " host(\"A\"); } print(kind(new G()));");
        Bench.due("an instance or host class is none", bench.output(), "object\nobject\n");
        Bench.due("proto becomes no NAME by it", Bench.ran("fun F() { } new F(); new F();").tongue.count(8), 1);
    }

    private static void asked() {
        Bench.about("promise 24: how often linker k was asked (a LOOKUP, in whatever way it ended, but by ERROR 3)");
        String host = "class A { int a; static int b; new (); void m(int); }";
        String[] wants = {"o.x", "1000", "o.x = 1", "1000", "o[\"x\"]", "1000", "o[\"x\"] = 1", "1000", "o[1]", "1000", "o()", "1000",
                "new o()", "1000", "o.x()", "1000", "f()", "1000", "new f()", "1000", "f.x", "1000",
            "i.a", "0100", "i.z", "0100", "i.m(1)", "0100", "i.m()", "0100", "i()", "0100", "i[0]", "0100", "i.a = null", "0100", "A.b",
            "0010", "A.z", "0010", "new A()", "0010", "new A(1)", "0010", "A()", "0010", "A[0] = 1", "0010",
            "l.size", "0001", "l.z", "0001", "l[0]", "0001", "l[9]", "0001", "l()", "0001", "l.pop()", "0001", "t.size", "0001", "t.z()",
            "0001", "t[0] = 1", "0001", "null.a", "0000", "true.a = 1", "0000", "(1)()", "0000", "new 1()", "0000",
            "false[0]", "0000"};
        for (int i = 0; i < wants.length; i += 2) {
            Bench bench = new Bench();
            bench.host(host);
            bench.run(0, "A = host(\"A\"); i = new A(); o = {}; f = fun () { }; l = [1]; t = \"t\"; j = 0;");
            int[] before = {bench.tongue.count(20), bench.tongue.count(21), bench.tongue.count(22), bench.tongue.count(23)};
            bench.run(0, "try { " + wants[i] + "; } catch (e) { }");
            String more = "";
            for (int k = 0; k < 4; k++) {
                more += bench.tongue.count(20 + k) - before[k];
            }
            Bench.due("asked by " + wants[i], more, wants[i + 1]);
        }
        for (int what : new int[] {Integer.MIN_VALUE, -1, 18, 19, 24, 25, 100, Integer.MAX_VALUE}) {
            Bench.due("count(" + what + ")", new Face.Real().count(what), -1);
        }
        Bench bench = Bench.ran("o = { a: 1 }; i = 0; while (i < 5) { o.a; i = i + 1; }");
        Bench.due("a HIT asks none", bench.tongue.count(20), 2);
    }

    private static void wrongStays() {
        Bench.about("promise 24: WRONG counts how often an entry whose guard held said another thing than a LOOKUP would have found then");
        String host = "class A { int a; static int b; new (); new (Any); int m(Any); static int s(Any); int getC(); void setD(Any);"
                + " bool isE(); }";
        Bench bench = Bench.ran(host, "A = host(\"A\"); i = new A(); p = { n: 1, m: fun () { return this; } }; o = make(p); l = [1, 2];"
                + " t = \"text\"; f = fun (x) { this_ = x; }; f.n = 2; j = 0; while (j < 6) { o.n; p.n; o.zz; f.n; o[\"n\"]; o[\"z\"];"
                + " l[j % 2]; t[j % 4]; l.size; t.size; l.push(j); l.pop(); t.sub(0, j % 3); o.m(); p.m(); f(j); new f(j); o.own = j;"
                + " p.n = j; o[\"own\"] = j; o[\"e\"] = j; l[0] = j; i.a; i.a = j; i.c; i.d = j; i.e; i.m(j); A.b; A.b = j; A.s(j);"
                + " new A(); new A(j); if (j == 2) { p.late = 1; turn(o, p); } if (j == 4) { drop(o, \"own\"); } j = j + 1; }");
        Bench.due("the task", bench.end(0), "2 0 0");
        int few = 0;
        for (int s = bench.tongue.function(0, 4); s < bench.tongue.function(0, 4) + bench.tongue.function(0, 5); s++) {
            few += bench.tongue.site(s, 7) == 0 ? 1 : 0;
        }
        // The sites ahead of the loop, the two within an if, and those that the changes meet each time have none.
        Bench.due("sites without a HIT", few <= 8, true);
        Bench.due("count(17)", bench.tongue.count(17), 0);
    }

    private static void sitesMeet() {
        Bench.about("terms 6 and 7: many sites and entries in turns");
        // Each f reads with six shapes; their entries come and go among one another.
        StringBuilder text = new StringBuilder("l = []; i = 0; while (i < 6) { o = make({ n: i }); o[\"x\" + i] = i; l.push(o); i = i +"
                + " 1; } s = 0; i = 0; while (i < 12) { o = l[i * 5 % 6]; ");
        for (int k = 0; k < 30; k++) {
            text.append(k % 3 == 0 ? "s = s + o.n; " : k % 3 == 1 ? "s = s + o[\"n\"]; " : "if (i < 4) { s = s + o.n; } ");
        }
        Bench bench = Bench.ran(text + "if (i == 7) { proto(l[2]).z = 1; } i = i + 1; }");
        int sum = 0;
        for (int i = 0; i < 12; i++) {
            sum += i * 5 % 6 * (i < 4 ? 30 : 20);
        }
        Bench.due("the sum", bench.global("s"), "2 " + sum);
        Bench.due("WRONG", bench.tongue.count(17), 0);
    }
}
