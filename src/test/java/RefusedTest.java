/** "What throws or is refused changes nothing but the tape": each call of the face with what it refuses, in many states. */
public final class RefusedTest {
    private static final int[] EDGES = {Integer.MIN_VALUE, -1, 2, 17, 1001, 70000, Integer.MAX_VALUE};
    private static final String HOST = "interface I { Any q(); } class A : I { int a; static Text s; new (int); Any m(Any...); void"
            + " setB(int); int b; }";
    private static final String UNIT = "o = new (host(\"A\"))(3); p = { x: [1, null] }; q = make(p); q[\"z z\"] = 4; fun f(n) { var k ="
            + " n; try { return o.m(k, q.x); } catch (e) { return e; } } print(f(2)); p.w = 1; return \"end\" + q[\"z z\"];";
    private static final String MORE = "try { print(f(3)); print(q.x); o.b = 7; } catch (e) { print(e); } return \"text\";";

    public static void main(String[] args) {
        String[] states = {"new", "host", "unit", "started", "midway", "done", "failed", "stopped", "anew"};
        for (String state : states) {
            Bench.about("what is refused changes nothing but the tape, " + state);
            String all = Bench.all(() -> in(state));
            String behind = Bench.all(() -> goneOn(in(state)));
            for (int i = 0; i < EDGES.length + 3; i++) {
                int which = i;
                Bench.due("all behind " + i, Bench.all(() -> refused(in(state), which)), all);
                Bench.due("what comes behind that and " + i, Bench.all(() -> goneOn(refused(in(state), which))), behind);
            }
        }
        Bench.end();
    }

    /** An object of which some of the calls that are refused were asked. */
    private static Bench refused(Bench bench, int which) {
        if (which < EDGES.length) {
            refusedCalls(bench, EDGES[which]);
        } else if (which == EDGES.length) {
            refusedFeeds(bench);
            refusedStates(bench);
        } else {
            refusedTexts(bench, which == EDGES.length + 1);
        }
        return bench;
    }

    private static Bench in(String state) {
        Bench bench = new Bench();
        if (state.equals("new")) {
            return bench;
        }
        bench.host(HOST);
        if (state.equals("host")) {
            return bench;
        }
        bench.compile(UNIT);
        if (state.equals("unit")) {
            return bench;
        }
        bench.tongue.start(0, 0);
        bench.tongue.start(1, 0);
        if (state.equals("started")) {
            return bench;
        }
        bench.tongue.steps(0, 36);
        bench.tongue.steps(1, 9);
        if (state.equals("midway")) {
            return bench;
        }
        bench.tongue.steps(0, 1000);
        if (state.equals("failed")) {
            bench.run(0, "throw [f];");
        } else if (state.equals("stopped")) {
            bench.run(0, "t = \"0123456789\"; while (1) { t = t + t; }");
        } else if (state.equals("anew")) {
            bench.host(HOST);
            bench.compile(UNIT);
        }
        return bench;
    }

    private static Bench goneOn(Bench bench) {
        if (bench.tongue.task(1, 0) == 1) {
            bench.tongue.steps(1, 1000);
        }
        bench.compile(MORE);
        bench.runUnit(0, bench.tongue.count(3) - 1);
        return bench;
    }

    private static void refusedFeeds(Bench bench) {
        Face tongue = bench.tongue;
        bench.feed("a;");
        Bench.due("a bad sign", tongue.feed(0x6100000000000000L, 127) + " " + tongue.feed(31, 0x61) + " " + tongue.feed(-1, -1) + " "
                + tongue.count(0), "-1 -1 -1 2");
        Bench.due("an empty tape again", Bench.answer(() -> tongue.global(-1)) + " " + tongue.count(0), "IndexOutOfBoundsException 0");
    }

    private static void refusedCalls(Bench bench, int edge) {
        Face tongue = bench.tongue;
        int units = edge < 0 ? edge : Math.max(edge, tongue.count(3));
        int things = edge < 0 ? edge : Math.max(edge, tongue.count(10));
        int shapes = edge < 0 ? edge : Math.max(edge, tongue.count(12));
        int far = edge < 0 || edge > 1000 ? edge : 1000;
        Bench.due("start(" + edge + ", 0)", tongue.start(edge, 0), false);
        Bench.due("start(0, " + units + ")", tongue.start(0, units), false);
        Bench.due("steps(" + edge + ", 1)", Bench.answer(() -> tongue.steps(edge, 1)), "IllegalArgumentException");
        int n = far == 1000 ? 0 : edge;
        Bench.due("steps(0, " + n + ")", Bench.answer(() -> tongue.steps(0, n)), "IllegalArgumentException");
        Bench.due("result(" + edge + ", 0)", Bench.answer(() -> tongue.result(edge, 0)), "IndexOutOfBoundsException");
        Bench.due("result(0, " + edge + ")", Bench.answer(() -> tongue.result(0, edge)), "IndexOutOfBoundsException");
        Bench.due("property(" + things + ", 0, 0)", Bench.answer(() -> tongue.property(things, 0, 0)), "IndexOutOfBoundsException");
        Bench.due("property(0, " + far + ", 0)", Bench.answer(() -> tongue.property(0, far, 0)), "IndexOutOfBoundsException");
        int what = edge == 2 ? 3 : edge;
        Bench.due("property(0, 0, " + what + ")", Bench.answer(() -> tongue.property(0, 0, what)), "IndexOutOfBoundsException");
        Bench.due("global(" + edge + ")", Bench.answer(() -> tongue.global(edge)), "IndexOutOfBoundsException");
        Bench.due("global(0)", Bench.answer(() -> tongue.global(0)), "NoSuchElementException");
        int[] none = {tongue.type(edge, 5), tongue.type(far, 0), tongue.member(edge, -1), tongue.member(far, 0), tongue.function(edge, 6),
                tongue.function(far, 0), tongue.code(edge, 0, 3), tongue.code(0, far, 0), tongue.site(edge, 11),
            tongue.site(far, 0), tongue.entry(edge, 0, 6), tongue.entry(0, far, 0), tongue.name(0, far), tongue.name(far, 0),
                    tongue.task(edge, 0), tongue.task(0, far), tongue.sign(0, far), tongue.sign(edge, 0), tongue.thing(edge, 6),
            tongue.thing(things, 0), tongue.shape(shapes, 0), tongue.shape(0, far), tongue.output(far), tongue.trace(far),
                    tongue.count(far)};
        for (int i = 0; i < none.length; i++) {
            Bench.due("call " + i + " with " + edge, none[i], -1);
        }
        Bench.due("subtype", tongue.subtype(far, far), false);
    }

    private static void refusedStates(Bench bench) {
        Face tongue = bench.tongue;
        for (int t = 0; t < 2; t++) {
            int task = t;
            int state = tongue.task(t, 0);
            if (state == 1) {
                Bench.due("start of what RUNS", tongue.start(t, 0), false);
            } else {
                Bench.due("steps of what does not RUN", Bench.answer(() -> tongue.steps(task, 1)), "IllegalStateException");
            }
            if (state != 2 && state != 3) {
                Bench.due("result of what has none", Bench.answer(() -> tongue.result(task, 0)), "IllegalStateException");
            }
        }
    }

    private static void refusedTexts(Bench bench, boolean ofHost) {
        String[] hosts = {"class", "class B { int b; new (B); static B c; } interface J { void m(); } class C : B, J { Any m(Any,"
                + " Any...); } #", "class B { } class B { }", "class B : C { }", "class B { } class C : B, B { }",
            "interface J { int a; }", "class B { void m(); void m(); }"};
        for (int i = 0; ofHost && i < hosts.length; i++) {
            Bench.due("a host's fault: " + hosts[i], bench.host(hosts[i]) > 0, true);
        }
        String[] units = {"zq", "zq = \"zt\"; fun zf(za) { var zv; za.zb(1)[2] = new zc({ zd: 1 }); } zq = ;", "1 = 2;",
                "fun f(za, za) { }", "((((((((((((((((((((((((((((((((((((((((((((((((((((", "print();", "zq(1, 2, 3, 4, 5, 6, 7, 8, 9);",
            "fun zf() { while (1) { zx[\"zy\"]; } "};
        for (int i = 0; !ofHost && i < units.length; i++) {
            Bench.due("a unit's fault: " + units[i], bench.fault(units[i]) >= 0, true);
        }
        Bench.due("the tape", bench.tongue.count(0), 0);
    }
}
