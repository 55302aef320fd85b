import java.lang.management.ManagementFactory;

/** Rule 12: what a run makes is little, and what has gone is used again. */
public final class RoomTest {
    private static final String NINE = "(x={}).a=x.b=x.c=x.d=x.e=x.f=x.g=x.h=x.i=0;";
    private static final String MIXED = "i = 0; o = null; while (i < 90) { p = make(o); p.a = i; p.b = i; q = make(p); q.c; q.a; q.b;"
            + " p.c = 1; q.c; drop(p, \"a\"); q.a; l = [i]; l.push(p); l.push(q); f = fun (n) { var m = n; return fun () { return m; }; };"
            + " f(i)(); new f(i); s = \"n\" + i; q[s] = s; q[s]; try { null.x; } catch (e) { } a = new (host(\"A\"))(i, s); a.m(i);"
            + " a.m(s); a.t; a.n = i; print(s); if (i % 9 == 8) { o = p; } i = i + 1; }";
    private static final String HOST = "class A { int n; Text t; new (int, Text); Any m(Any); Any m(Int); Text getT(); }";

    public static void main(String[] args) {
        manyOfAll();
        usedAgain();
        refusedUsedAgain();
        manyEntries();
        growingInTurns();
        Bench.end();
    }

    /** The bytes that this thread has taken so far for objects and arrays. */
    private static long taken() {
        return ((com.sun.management.ThreadMXBean) ManagementFactory.getThreadMXBean())
                .getThreadAllocatedBytes(Thread.currentThread().getId());
    }

    /** The bytes taken since then, but for what the asking itself takes. */
    private static long takenSince(long before) {
        long now = taken();
        return now - before - (taken() - now);
    }

    private static void manyOfAll() {
        Bench.about("rule 12, a run near all limits");
        long before = taken();
        Bench once = nearAllLimits();
        // Feeding takes some of these, too.
        Bench.due("at most some bytes", takenSince(before) < 6000000, true);
        Bench.due("STOPPED", once.tongue.task(1, 0), 4);
        Bench bench = Bench.alike(() -> nearAllLimits());
        Bench.due("sites, things, shapes", bench.tongue.count(6) + " " + bench.tongue.count(10) + " " + bench.tongue.count(12),
                "2038 7997 4001");
        int nine = 0;
        for (int s = 0; s < 2038; s++) {
            nine += bench.tongue.site(s, 6) == 9 ? 1 : 0;
        }
        Bench.due("sites that have linked nine times", nine, 2006);
        for (int i = 0; i < 9; i++) {
            Bench.due("name " + i + " of the first thing", bench.name((int) bench.tongue.property(0, i, 2)), "" + (char) ('i' - i));
        }
    }

    /** A run of some 420 calls. */
    private static Bench nearAllLimits() {
        Bench bench = new Bench();
        bench.compile(NINE + "o=null;while(1){o=make(o);o.a=o;o" + ".a".repeat(2000) + ";}");
        bench.tongue.start(0, 0);
        for (int i = 0; i < 18; i++) {
            bench.tongue.steps(0, 1000);
        }
        bench.tongue.steps(0, 141);
        bench.run(1, "while(1){(x=make(x)).a=x.b=x.c=x.d=x.e=0;}");
        bench.run(1, "while(1){" + NINE + NINE + "(x={}).e=x.f=x.g=x.h=x.i=0;}");
        return bench;
    }

    private static long pass(Bench bench) {
        bench.feed(HOST);
        long before = taken();
        Bench.due("host()", bench.tongue.host(), 0);
        long sum = takenSince(before);
        bench.feed(MIXED);
        before = taken();
        Bench.due("compile()", bench.tongue.compile(), 0);
        bench.tongue.start(0, 0);
        while (bench.tongue.task(0, 0) == 1) {
            bench.tongue.steps(0, 1000);
        }
        sum += takenSince(before);
        Bench.due("the task", bench.end(0), "2 0 0");
        return sum;
    }

    private static void usedAgain() {
        Bench.about("rule 12, a host told anew");
        Bench bench = new Bench();
        pass(bench);
        // The host that was not in use at first has its rows by now, too.
        pass(bench);
        String counts = counts(bench);
        // A table that grows takes more than that.
        Bench.due("bytes taken by the third pass", pass(bench) < 4000, true);
        Bench.due("the same answers", counts(bench), counts);
    }

    private static String counts(Bench bench) {
        StringBuilder text = new StringBuilder();
        for (int what = 1; what < 24; what++) {
            text.append(bench.tongue.count(what)).append(' ');
        }
        for (int i = 0; i < bench.tongue.count(15); i += 40) {
            text.append(bench.tongue.output(i)).append(' ').append(bench.tongue.trace(i)).append(' ');
        }
        return text.toString();
    }

    private static void refusedUsedAgain() {
        Bench.about("rule 12, what is refused");
        Bench bench = new Bench();
        String host = HOST.replace("Text getT();", "Text getT() }");
        String source = MIXED.replace("print(s);", "print(s)");
        for (int i = 0; i < 3; i++) {
            Bench.due("a host's fault", bench.host(host) % 16, 1);
            Bench.due("a unit's fault", bench.fault(source) % 16, 1);
        }
        bench.feed(source);
        long before = taken();
        bench.tongue.compile();
        // An exception is made, and nothing else.
        Bench.due("bytes taken by a unit's fault", takenSince(before) < 4000, true);
        bench.feed(host);
        before = taken();
        bench.tongue.host();
        Bench.due("bytes taken by a host's fault", takenSince(before) < 4000, true);
    }

    private static void manyEntries() {
        Bench.about("rule 12, entries that went");
        // Each turn makes the entry of a read stale, which is pruned and linked anew, up to nine times.
        StringBuilder reads = new StringBuilder();
        for (int i = 0; i < 300; i++) {
            reads.append("q.a;");
        }
        Bench bench = Bench.alike(() -> Bench.ran("p = { a: 1 }; q = make(p); i = 0; while (i < 12) { " + reads
                + " turn(p, null); i = i + 1; }"));
        int first = 1;
        for (int s = first; s < first + 300; s++) {
            Bench.due("site " + s, bench.site(s, 6, 10), "9 0 8 0 1");
        }
        // The entries of different sites never mix.
        String six = "o = [{}, { a: 1 }, { b: 1 }, { c: 1, a: 2 }, { d: 1 }, { e: 1, a: 3 }]; i = 0; r = 0;"
                + " while (i < 6) { " + "r = r + (o[i].a || 0); o[i].b; ".repeat(40) + " i = i + 1; }";
        Bench.due("the sum", Bench.ran(six).global("r"), "2 " + 40 * 6);
        bench = Bench.alike(() -> Bench.ran(six));
        for (int s = bench.tongue.function(0, 4); s < bench.tongue.count(6); s++) {
            if (bench.tongue.site(s, 0) == 0) {
                boolean isA = bench.name(bench.tongue.site(s, 1)).equals("a");
                Bench.due("links of " + s, bench.site(s, 6, 10), "6 0 0 4 0");
                Bench.due("guard of " + s, bench.tongue.entry(s, 0, 1) + " " + bench.tongue.entry(s, 3, 1),
                        bench.tongue.thing(5, 1) + " " + bench.tongue.thing(2, 1));
                Bench.due("which of " + s, bench.tongue.entry(s, 0, 3), isA ? 1 : -1);
            }
        }
    }

    private static void growingInTurns() {
        Bench.about("rule 12, things that grow in turns");
        String text = "v = []; i = 0; while (i < 12) { v.push([]); v.push({}); i = i + 1; } fun f(a) { var b = a; return fun () { return b; }; }"
                + " c = []; i = 0; while (i < 40) { c.push(f(i)); j = 0; while (j < 24) { if (kind(v[j]) == \"list\") { v[j].push(100 * j + i); }"
                + " else { v[j][\"n\" + i] = 100 * j + i; } j = j + 1; } i = i + 1; } i = 0; s = 0; while (i < 40) { s = s * 3 + c[i](); i = i + 1; }";
        Bench bench = Bench.alike(() -> Bench.ran(text));
        Bench.due("the task", bench.end(0), "2 0 0");
        for (int j = 0; j < 24; j++) {
            Bench.due("size of " + j, bench.tongue.thing(1 + j, 3), 40);
            for (int i = 0; i < 40; i++) {
                Bench.due("value " + i + " of " + j, bench.tongue.property(1 + j, i, 1), 100 * j + i);
                if (j % 2 == 1) {
                    Bench.due("name " + i + " of " + j, bench.name((int) bench.tongue.property(1 + j, i, 2)), "n" + i);
                }
            }
        }
        long sum = 0;
        for (int i = 0; i < 40; i++) {
            sum = sum * 3 + i;
        }
        bench = Bench.ran(text);
        Bench.due("what the calls have kept", bench.global("s"), "2 " + sum);
        bench.run(0, "drop(v[1], \"n0\"); drop(v[1], \"n39\"); drop(v[3], \"n7\"); v[2].pop(); v[2].push(7); v[1].z = 8; v[0][40] = 9;");
        Bench.due("sizes", bench.tongue.thing(2, 3) + " " + bench.tongue.thing(4, 3) + " " + bench.tongue.thing(3, 3) + " "
                + bench.tongue.thing(1, 3), "39 39 40 41");
        Bench.due("values", bench.tongue.property(2, 0, 1) + " " + bench.tongue.property(2, 38, 1) + " " + bench.tongue.property(4, 7, 1) + " "
                + bench.tongue.property(4, 38, 1) + " " + bench.tongue.property(3, 39, 1) + " " + bench.tongue.property(1, 40, 1)
                + " " + bench.tongue.property(5, 0, 1), "101 8 308 339 7 9 400");
    }
}
