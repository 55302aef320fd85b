/** "What throws or is refused changes nothing but the tape": each call of the face with what it refuses, in many states. */
public final class RefusedTest {
    private static final int[] EDGES = {Integer.MIN_VALUE, -1, 2, 17, 1001, 70000, Integer.MAX_VALUE};
    private static final String HOST = "interface I { Any q(); } class A : I { int a; static Text s; new (int); Any m(Any...); void setB(int); int b; }";
    private static final String UNIT = "A = host(\"A\"); o = new A(3); A.s = \"st\"; p = { x: [1, null], y: \"t\" }; q = make(p); q[\"z z\"] = 4; fun f(n) { var k = n; try { return o.m(k, q.x); } catch (e) { return e; } }"
            + " print(f(2)); q.x; q.x; p.w = 1; q.x; o.b = 7; return \"end\" + o.b;";

    public static void main(String[] args) {
        String[] states = {"new", "host", "unit", "started", "midway", "done", "failed", "stopped", "anew"};
        for (String state : states) {
            Bench.about("what is refused changes nothing but the tape, " + state);
            Bench twin = in(state);
            Bench bench = in(state);
            refusedFeeds(bench);
            refusedCalls(bench, bench.tongue.count(3), bench.tongue.count(10), bench.tongue.count(12));
            refusedTexts(bench);
            Bench.due("all", bench.all(), twin.all());
            goOn(twin);
            goOn(bench);
            Bench.due("and what comes behind it", bench.all(), twin.all());
        }
        Bench.end();
    }

    private static Bench in(String state) {
        Bench bench = new Bench();
        if (state.equals("new")) {
            return bench;
        }
        bench.host(HOST);
        if (state.equals("host")) {
            return bench;
        }
        bench.compile(UNIT);
        if (state.equals("unit")) {
            return bench;
        }
        bench.tongue.start(0, 0);
        bench.tongue.start(1, 0);
        if (state.equals("started")) {
            return bench;
        }
        bench.tongue.steps(0, 70);
        bench.tongue.steps(1, 9);
        if (state.equals("midway")) {
            return bench;
        }
        bench.tongue.steps(0, 1000);
        if (state.equals("failed")) {
            bench.run(0, "fun g() { throw [\"x\"]; } g();");
        } else if (state.equals("stopped")) {
            bench.run(0, "t = \"0123456789\"; while (1) { t = t + t; }");
        } else if (state.equals("anew")) {
            bench.host(HOST);
            bench.compile(UNIT);
        }
        return bench;
    }

    private static void goOn(Bench bench) {
        bench.compile(UNIT);
        bench.runUnit(0, bench.tongue.count(3) - 1);
        if (bench.tongue.task(1, 0) == 1) {
            bench.tongue.steps(1, 1000);
        }
        bench.run(1, "try { print(q.x); print(A.s); } catch (e) { print(e); }");
    }

    private static void refusedFeeds(Bench bench) {
        LinkedTongue tongue = bench.tongue;
        bench.feed("a;");
        Bench.due("a bad sign", tongue.feed(0x6100000000000000L, 127) + " " + tongue.feed(31, 0x61) + " " + tongue.feed(-1, -1) + " " + tongue.count(0), "-1 -1 -1 2");
        Bench.due("an empty tape again", Bench.answer(() -> tongue.global(-1)) + " " + tongue.count(0), "IndexOutOfBoundsException 0");
    }

    private static void refusedCalls(Bench bench, int units, int things, int shapes) {
        LinkedTongue tongue = bench.tongue;
        for (int edge : EDGES) {
            Bench.due("start(" + edge + ", 0)", edge == 0 || tongue.start(edge, 0), false);
            Bench.due("start(0, " + Math.max(edge, units) + ")", tongue.start(0, edge < 0 ? edge : Math.max(edge, units)), false);
            Bench.due("steps(" + edge + ", 1)", Bench.answer(() -> tongue.steps(edge, 1)), "IllegalArgumentException");
            int n = edge > 0 && edge <= 1000 ? 0 : edge;
            Bench.due("steps(0, " + n + ")", Bench.answer(() -> tongue.steps(0, n)), "IllegalArgumentException");
            Bench.due("result(" + edge + ", 0)", Bench.answer(() -> tongue.result(edge, 0)), "IndexOutOfBoundsException");
            Bench.due("result(0, " + edge + ")", Bench.answer(() -> tongue.result(0, edge)), "IndexOutOfBoundsException");
            int k = edge < 0 ? edge : Math.max(edge, things);
            Bench.due("property(" + k + ", 0, 0)", Bench.answer(() -> tongue.property(k, 0, 0)), "IndexOutOfBoundsException");
            int what = edge == 2 ? 3 : edge;
            Bench.due("property(0, 0, " + what + ")", Bench.answer(() -> tongue.property(0, 0, what)), "IndexOutOfBoundsException");
            Bench.due("global(" + edge + ")", Bench.answer(() -> tongue.global(edge)), "IndexOutOfBoundsException");
            Bench.due("global(0)", Bench.answer(() -> tongue.global(0)), "NoSuchElementException");
            int[] none = {tongue.type(edge, 5), tongue.member(edge, -1), tongue.function(edge, 6), tongue.code(edge, 0, 3), tongue.code(0, edge, 3), tongue.site(edge, 11), tongue.entry(edge, 0, 6), tongue.entry(0, edge, 6),
                tongue.name(0, edge == 2 || edge == 17 ? 60 : edge), tongue.task(edge, 0), tongue.sign(0, edge == 2 ? 60 : edge), tongue.thing(edge, 6), tongue.shape(edge < 0 ? edge : Math.max(edge, shapes), 0),
                tongue.output(edge == 2 || edge == 17 ? 65536 : edge), tongue.trace(edge == 2 || edge == 17 ? 100000 : edge), tongue.count(edge == 2 || edge == 17 ? 18 : edge)};
            for (int i = 0; i < none.length; i++) {
                Bench.due("call " + i + " with " + edge, none[i], -1);
            }
            Bench.due("subtype", tongue.subtype(edge, edge) && edge != 2, false);
        }
        for (int t = 0; t < 2; t++) {
            int task = t;
            if (tongue.task(t, 0) == 1) {
                Bench.due("start of what RUNS", tongue.start(t, 0), false);
            } else {
                Bench.due("steps of what does not RUN", Bench.answer(() -> tongue.steps(task, 1)), "IllegalStateException");
            }
            if (tongue.task(t, 0) != 2 && tongue.task(t, 0) != 3) {
                Bench.due("result of what has none", Bench.answer(() -> tongue.result(task, 0)), "IllegalStateException");
            }
        }
    }

    private static void refusedTexts(Bench bench) {
        String[] hosts = {"class", "class B { int b; new (B); static B c; } interface J { void m(); } class C : B, J { Any m(Any, Any...); } #", "class B { } class B { }", "class B : C { }", "class B { } class C : B, B { }",
            "interface J { int a; }", "class B { void m(); void m(); }"};
        for (String host : hosts) {
            Bench.due("a host's fault: " + host, bench.host(host) > 0, true);
        }
        String[] units = {"zq", "zq = \"zt\"; fun zf(za) { var zv; za.zb(1)[2] = new zc({ zd: 1 }); } zq = ;", "1 = 2;", "fun f(za, za) { }", "((((((((((((((((((((((((((((((((((((((((((((((((((((", "print();", "zq(1, 2, 3, 4, 5, 6, 7, 8, 9);",
            "fun zf() { while (1) { zx[\"zy\"]; } "};
        for (String unit : units) {
            Bench.due("a unit's fault: " + unit, bench.fault(unit) >= 0, true);
        }
        Bench.due("the tape", bench.tongue.count(0), 0);
    }
}
