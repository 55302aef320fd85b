/** Promise 24 and term 9: what is counted, and where MEMORY is at its end. */
public final class MemoryTest {
    private static final String MANY = "fun f() { var a; var b; var c; var d; var e; var g; var h; var i; var j; var k;"
            + " var l; var m; var n; var o; var p; var q; var r; var s; var t; var u; } i = 0; ";

    public static void main(String[] args) {
        counts();
        thingsAndCalls();
        values();
        texts();
        shapes();
        names();
        namesAheadOfAllElse();
        propertiesOfAThing();
        outputAndTrace();
        choices();
        wholeLife();
        linkedStays();
        Bench.end();
    }

    private static void counts() {
        Bench.about("promise 24");
        Bench bench = new Bench();
        bench.host("class A { new (); int m(); } interface I { }");
        bench.run(0, "fun f() { return 1; } o = { a: 1 }; p = make(o); f(); f(); print(p.a); a = new (host(\"A\"))(); a.m();"
                + " a.m(); l = []; l.size; \"x\"; \"y\"; try { null.x; } catch (e) { }");
        bench.feed("abc");
        int instructions = bench.tongue.function(0, 3) + bench.tongue.function(1, 3);
        int[] want = {3, 2, 2, 1, 2, instructions, 9, 7, 9, 3, 5, 3, 3, 2, 2, 2, 6, 0, -1, -1, 4, 2, 1, 1, -1};
        for (int what = 0; what < want.length; what++) {
            Bench.due("count(" + what + ")", bench.tongue.count(what), want[what]);
        }
        Bench.due("count(-1)", bench.tongue.count(-1), -1);
        Bench.due("count(most)", bench.tongue.count(Integer.MAX_VALUE), -1);
        Bench.due("count(least)", bench.tongue.count(Integer.MIN_VALUE), -1);
    }

    private static Bench stopped(String label, String text) {
        Bench bench = Bench.ran(text);
        Bench.due(label + " STOPPED", bench.tongue.task(0, 0), 4);
        return bench;
    }

    private static void thingsAndCalls() {
        Bench.about("8000 things and calls");
        Bench bench = stopped("objects", "while (true) { o = {}; }");
        Bench.due("things", bench.tongue.count(10), 7999);
        Bench.due("the instruction was not done", bench.tongue.task(0, 4), 2);
        Bench.due("no start", bench.tongue.start(1, 0), false);
        Bench.due("not even of itself", bench.tongue.start(0, 0), false);
        bench = stopped("no TRY helps", "try { while (true) { try { [1]; } catch (e) { } } } catch (e) { }");
        Bench.due("lists", bench.tongue.count(10), 7999);
        bench = stopped("calls", "fun f() { } while (true) { f(); }");
        Bench.due("calls", bench.tongue.count(11), 7999);
        Bench.due("f lies on the pile", bench.tongue.task(0, 1) + " " + bench.tongue.task(0, 2), "1 1");
        bench = stopped("funs", "while (true) { fun f() { } }");
        Bench.due("funs", bench.tongue.count(10), 7999);
        bench = stopped("news", "o = {}; fun F() { } while (true) { new F(); }");
        Bench.due("two each", bench.tongue.count(10) + " " + bench.tongue.count(11), (2 + 3998) + " " + (1 + 3998));
        bench = Bench.ran("class A { new (); }", "A = host(\"A\"); while (true) { new A(); }");
        Bench.due("instances", bench.tongue.task(0, 0) + " " + bench.tongue.count(10), "4 7999");
        Bench.due("each one was traced", bench.tongue.count(16), 2 * 7999);
    }

    private static void values() {
        Bench.about("60000 values");
        // A call of f takes 20 of them: 2999 leave 20.
        String head = MANY + "while (i < 2999) { f(); i = i + 1; } l = []; i = 0; ";
        Bench bench = stopped("VARIABLES", MANY + "while (true) { f(); }");
        Bench.due("calls", bench.tongue.count(11), 3001);
        bench = stopped("push", head + "while (true) { l.push(1); }");
        Bench.due("elements", bench.tongue.thing(1, 3), 20);
        bench = stopped("what went counts", head + "while (true) { l.push(1); l.pop(); i = i + 1; }");
        Bench.due("pushed", bench.global("i"), "2 20");
        bench = stopped("SET ELEMENT", head + "while (true) { l[i] = 1; i = i + 1; }");
        Bench.due("elements", bench.tongue.thing(1, 3), 20);
        bench = stopped("LIST", head + "while (true) { [1, 2, 3]; i = i + 1; }");
        Bench.due("lists", bench.tongue.count(10), 2 + 6);
        bench = stopped("properties", head + "o = {}; while (true) { o.a = 1; drop(o, \"a\"); i = i + 1; }");
        Bench.due("set", bench.global("i"), "2 20");
        bench = Bench.ran("class A { int a; Any b; static int c; new (); }", head + "A = host(\"A\"); while (true) { new A(); }");
        Bench.due("fields", bench.tongue.task(0, 0) + " " + bench.tongue.count(10), "4 " + (2 + 10));
        bench = Bench.ran(head + "l.push(1); l[0] = 2; f = fun () { }; i = 0; while (i < 30) { f(); i = i + 1; l[0] = 3; }");
        Bench.due("what takes none", bench.tongue.task(0, 0), 2);
    }

    private static void texts() {
        Bench.about("12000 texts and 200000 bytes");
        String[] makers = {"\"a\" + 1", "kind(1)", "\"ab\".sub(0, 1)", "\"ab\"[1]", "\"\" + \"\""};
        for (String maker : makers) {
            Bench bench = stopped(maker, "i = 0; while (true) { " + maker + "; i = i + 1; }");
            Bench.due("texts by " + maker, bench.global("i"), "2 12000");
        }
        Bench bench = Bench.ran("class A { new (); Text m(); Text getT(); Text t; }",
                "a = new (host(\"A\"))(); a.t = \"x\"; i = 0; while (i < 13000) { a.t; i = i + 1; } i = 0; while (true) { a.m(); i = i + 1; }");
        Bench.due("texts by a host's method", bench.global("i") + " " + bench.tongue.task(0, 0), "2 12000 4");
        String hundred = "s = \"0123456789012345678901234567890123456789\"; s = s + s + \"01234567890123456789\"; ";
        bench = stopped("bytes", hundred + "i = 0; while (true) { s.sub(0, 100); i = i + 1; }");
        Bench.due("texts of 100", bench.global("i"), "2 " + (200000 - 180) / 100);
        bench = stopped("a great one", "s = \"0123456789\"; while (true) { s = s + s; }");
        Bench.due("its size", bench.global("s"), "3 81920");
        bench = Bench.ran(hundred + "t = \"x\"; i = 0; while (i < 100) { t = s; print(t == s); i = i + 1; } \"abc\";");
        Bench.due("a source's texts take none", bench.tongue.task(0, 0), 2);
    }

    private static void shapes() {
        Bench.about("4000 shapes");
        Bench bench = stopped("prototypes", "o = {}; while (true) { o = make(o); }");
        Bench.due("shapes", bench.tongue.count(12), 4001);
        Bench.due("things", bench.tongue.count(10), 4001);
        String head = "o = {}; i = 0; while (i < 3990) { o = make(o); i = i + 1; } ";
        bench = stopped("properties", head + "p = { a: 1, b: 1, c: 1, d: 1, e: 1, f: 1, g: 1, h: 1, k: 1, l: 1, m: 1, n: 1 };");
        Bench.due("shapes", bench.tongue.count(12), 4001);
        int s = bench.tongue.count(6) - 2;
        Bench.due("without room nothing is linked", bench.site(s, 6, 9) + ", " + bench.site(s - 1, 6, 9), "0 0 0 0, 1 0 0 1");
        Bench.due("asked", bench.tongue.count(20), 11);
        bench = stopped("turn", head + "p = { a: 1, b: 1, c: 1, d: 1, e: 1 }; q = {}; turn(p, q); ");
        Bench.due("not done at all", bench.tongue.count(12), 3996);
        bench = Bench.ran(head + "p = { a: 1, b: 1, c: 1, d: 1 }; q = {}; turn(p, q);");
        Bench.due("turn with room", bench.tongue.task(0, 0) + " " + bench.tongue.count(12), "2 4000");
        bench = stopped("drop", head + "p = { a: 1, b: 1, c: 1, d: 1, e: 1, f: 1 }; drop(p, \"a\");");
        Bench.due("not done at all", bench.tongue.count(12) + " " + bench.tongue.thing(bench.tongue.count(10) - 1, 3), "3997 6");
        bench = stopped("new", head + "i = 0; while (i < 10) { o = make(o); i = i + 1; } fun F() { } F[\"proto\"] = o; new F();");
        Bench.due("not even a name's shape", bench.tongue.count(12), 4001);
        Bench.due("shape 0 counts none", Bench.ran(head + "i = 0; while (i < 10) { o = make(o); make(null); i = i + 1; }").end(0), "2 0 0");
    }

    private static void names() {
        Bench.about("4000 names");
        Bench bench = stopped("elements", "o = {}; i = 0; while (true) { o[\"\" + i]; i = i + 1; }");
        Bench.due("names", bench.tongue.count(8), 4000);
        Bench.due("i", bench.global("i"), "2 3998");
        Bench.due("refused ahead of a LOOKUP", bench.tongue.count(20) + " " + bench.site(0, 6, 10), "3998 9 0 0 0 1");
        Bench.due("compile of a new name", bench.fault("o; x;"), 7 + 16 * 3);
        Bench.due("an old one", bench.run(0, "o[\"17\"]; o[\"o\"];"), 10);
        bench.host("");
        Bench.due("since the host was told", bench.run(0, "o = {}; o[\"zz\"];"), 9);
    }

    private static void namesAheadOfAllElse() {
        Bench.about("4000 names: an element's text is one ahead of all else");
        Bench bench = Bench.ran("p = {}; o = make(p); fun r(k) { return o[k]; } fun w(k) { o[k] = 1; } r(\"x\"); w(\"a\"); p.y = 1;");
        bench.run(0, "q = {}; i = 0; while (true) { q[\"_\" + i]; i = i + 1; }");
        Bench.due("names", bench.tongue.count(8) + " " + bench.tongue.task(0, 0), "4000 4");
        int asked = bench.tongue.count(20);
        int read = bench.tongue.function(1, 4);
        int write = bench.tongue.function(2, 4);
        String[] stops = {"r(\"zz\");", "w(\"zz\");"};
        for (String stop : stops) {
            bench.run(1, stop);
            Bench.due(stop, bench.tongue.task(1, 0) + " " + bench.tongue.task(1, 1) + " " + bench.tongue.task(1, 4), "4 2 " + (stop.startsWith("r") ? 2 : 3));
        }
        Bench.due("a stale entry stays", bench.site(read, 6, 9) + ", " + bench.tongue.entry(read, 0, 5), "1 0 0 1, 1");
        Bench.due("a write", bench.site(write, 6, 9), "1 0 0 1");
        // The two calls were asked for, the reads and writes were not.
        Bench.due("asked", bench.tongue.count(20) - asked, 2);
        bench.run(1, "r(\"x\");");
        Bench.due("a name that is there", bench.tongue.task(1, 0) + " " + bench.site(read, 6, 9), "2 2 0 1 1");
        bench.run(1, "try { r(\"\"); } catch (i) { } try { r(7); } catch (q) { }");
        Bench.due("what can be no name", bench.global("i") + ", " + bench.global("q") + ", " + bench.tongue.task(1, 0), "2 6, 2 6, 2");
        bench.run(1, "[1][\"zz\"];");
        Bench.due("a list's element makes no name", bench.end(1), "3 2 6");
    }

    private static void propertiesOfAThing() {
        Bench.about("64 properties of a thing");
        Bench bench = stopped("properties", "o = {}; i = 0; while (true) { o[\"x\" + i] = i; i = i + 1; }");
        Bench.due("properties", bench.tongue.thing(0, 3), 64);
        Bench.due("i", bench.global("i"), "2 64");
        Bench.due("elements of a list have no such end", Bench.ran("l = []; i = 0; while (i < 100) { l.push(i); i = i + 1; }").end(0), "2 0 0");
    }

    private static void outputAndTrace() {
        Bench.about("65536 bytes of OUTPUT");
        Bench bench = stopped("print", "while (true) { print(\"012345678901234\"); }");
        Bench.due("bytes", bench.tongue.count(15), 65536);
        bench = stopped("print of more", "while (true) { print(\"01234567890123\"); }");
        Bench.due("bytes", bench.tongue.count(15), 65535);
        bench.run(1, "print(\"\"); print(\"\");");
        Bench.due("the last one, then no more", bench.tongue.count(15) + " " + bench.tongue.task(1, 0), "65536 4");

        Bench.about("100000 numbers of TRACE");
        bench = Bench.ran("class A { new (); void m(); int a; void setA(int); int getA(); }",
                "a = new (host(\"A\"))(); i = 0; while (i < 24999) { a.m(); a.a = i; i = i + 1; } a.a; i = 0; a.a; i = 1; ");
        Bench.due("numbers", bench.tongue.count(16) + " " + bench.tongue.task(0, 0), "100000 4");
        Bench.due("i", bench.global("i"), "2 0");
        Bench.due("the last", bench.tongue.trace(99998) + " " + bench.tongue.trace(99999) + " " + bench.tongue.trace(100000), "4 0 -1");
        bench.run(1, "a.a = 7;");
        Bench.due("a call that is not done", bench.tongue.task(1, 0) + " " + bench.tongue.property(0, 0, 1), "4 24998");
    }

    private static void choices() {
        Bench.about("2000 CHOICES");
        String host = "class A { new (); Any m(Any, Any, Any, Any, Any); }";
        String loop = "v = [1, 2147483647 + 1, \"\", true, null, {}, a]; i = 0; while (i < 2000) { a.m(v[i % 7], v[i / 7 % 7],"
                + " v[i / 49 % 7], v[i / 343 % 7], 1); i = i + 1; }";
        Bench bench = Bench.ran(host, "a = new (host(\"A\"))(); " + loop);
        Bench.due("kept, worked out", bench.tongue.count(13) + " " + bench.tongue.count(14), "2000 2001");
        // The last of these was not kept: it is worked out each time.
        bench.run(0, "a.m(v[0], v[0], v[0], v[0], 1); i = 1999; j = 0; while (j < 4) { a.m(v[i % 7], v[i / 7 % 7], v[i / 49 % 7],"
                + " v[i / 343 % 7], 1); j = j + 1; }");
        Bench.due("at a site with entries", bench.tongue.count(13) + " " + bench.tongue.count(14), "2000 2002");
        bench.run(0, loop);
        Bench.due("at a megamorphic site", bench.tongue.count(13) + " " + bench.tongue.count(14), "2000 2003");
        bench.host(host);
        bench.run(0, "a = new (host(\"A\"))(); new (host(\"A\"))();");
        Bench.due("in the whole life", bench.tongue.count(13) + " " + bench.tongue.count(14), "0 2");
    }

    private static void wholeLife() {
        Bench.about("a new host gives none back");
        Bench bench = Bench.ran("i = 0; while (i < 7990) { o = {}; i = i + 1; }");
        bench.host("");
        bench.run(0, "while (true) { o = {}; }");
        Bench.due("things", bench.tongue.count(10) + " " + bench.tongue.task(0, 0), "8 4");
        bench.host("");
        bench.compile("");
        Bench.due("no start", bench.tongue.start(0, 0), false);
        bench = Bench.ran("i = 0; while (i < 11999) { kind(i); i = i + 1; }");
        bench.host("");
        Bench.due("texts", bench.run(0, "kind(1); kind(2);"), 4);
        bench = Bench.ran("o = {}; i = 0; while (i < 3999) { o = make(o); i = i + 1; }");
        bench.host("");
        bench.run(0, "o = {}; o = make(o); make(o);");
        Bench.due("shapes", bench.tongue.count(12) + " " + bench.tongue.task(0, 0), "2 4");
        bench = Bench.ran("i = 0; while (i < 4369) { print(\"01234567890123\"); i = i + 1; }");
        bench.host("");
        bench.run(0, "print(\"01234567890123\");");
        Bench.due("but OUTPUT does", bench.output(), "01234567890123\n");
    }

    private static void linkedStays() {
        Bench.about("what a site has linked stays");
        Bench bench = stopped("hits", "fun f() { } while (true) { f(); }");
        Bench.due("links, hits", bench.site(0, 6, 9), "1 " + (7999 - 1) + " 0 1");
        bench = stopped("a link", "i = 0; while (i < 7998) { o = {}; i = i + 1; } fun f() { } f();");
        Bench.due("links, hits", bench.site(bench.tongue.count(6) - 1, 6, 9), "1 0 0 1");
        Bench.due("WRONG", bench.tongue.count(17), 0);
    }
}
