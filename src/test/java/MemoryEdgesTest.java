import java.util.HashMap;

/** Term 9's MEMORY and promises 13, 14 and 24, sentence by sentence: the last that there is room for, and the first that there is not. */
public final class MemoryEdgesTest {
    private static final String ZEROS = "[0" + ",0".repeat(499) + "];";
    /** What uses up some of a memory at once, how much, and what uses up one. */
    private static final String[] MADE = {"[];", "1", "[];"};
    private static final String[] VALUES = {ZEROS, "500", "[0];"};
    private static final String[] TEXTS = {"\"\" + \"\";", "1", "\"\" + \"\";"};
    private static final String[] BYTES = {"long_.sub(0, 1000);", "1000", "long_[0];"};
    private static final String[] SHAPES = {"chain_ = make(chain_);", "1", "chain_ = make(chain_);"};
    private static final String SETUP = "long_ = \"0123456789\"; i = 0; while (i < 7) { long_ = long_ + long_; i = i + 1; } chain_ = {}; ";
    private static final HashMap<String, Long> PROBED = new HashMap<>();

    public static void main(String[] args) {
        wholeAmounts();
        things();
        starts();
        values();
        texts();
        bytes();
        shapes();
        shapesOfTurnAndDrop();
        shapesOfNew();
        properties();
        names();
        output();
        trace();
        errorsComeAhead();
        whatStays();
        noTryHelps();
        aNewHostGivesNoneBack();
        sinceTheHostWasTold();
        stoppedTask();
        Bench.end();
    }

    private static long number(Bench bench, String global) {
        String told = bench.global(global);
        return told.equals("none") ? 0 : Long.parseLong(told.substring(2));
    }

    private static Bench at(String host, String setup) {
        Bench bench = new Bench();
        Bench.due("host()", bench.host(host), 0);
        bench.run(0, SETUP + setup);
        Bench.due("the setup " + setup, bench.end(0), "2 0 0");
        return bench;
    }

    private static void fill(Bench bench, String[] memory, long some, long ones) {
        bench.run(0, "n_ = 0; while (n_ < " + some + ") { " + memory[0] + " n_ = n_ + 1; }");
        bench.run(0, "k_ = 0; while (k_ < " + ones + ") { " + memory[2] + " k_ = k_ + 1; }");
    }

    /** An object on which, behind a setup, just so much of a memory is left for what a unit does in task 1. */
    private static Bench left(String[] memory, String host, String setup, int left) {
        long size = Long.parseLong(memory[1]);
        String key = memory[0] + host + setup;
        if (!PROBED.containsKey(key)) {
            Bench probe = at(host, setup);
            fill(probe, memory, 1000000, 1000000);
            PROBED.put(key, number(probe, "n_") * size + number(probe, "k_"));
        }
        long rest = PROBED.get(key) - left;
        if (memory == MADE) {
            // The second unit's start and that of what comes take two more.
            rest -= 2;
        }
        Bench bench = at(host, setup);
        fill(bench, memory, rest / size, rest % size);
        Bench.due("filled", bench.end(0), "2 0 0");
        return bench;
    }

    /** What does something with just so much left, and is not done with one less. */
    private static void takes(String[] memory, String host, String setup, String unit, int need, int op) {
        Bench bench = left(memory, host, setup, need);
        bench.run(1, unit);
        Bench.due(unit + " with " + need + " left", bench.end(1), "2 0 0");
        if (need > 0) {
            bench = left(memory, host, setup, need - 1);
            bench.compile(unit);
            // Of a value too many the shape is made by then; what is made ahead of the instruction stands in { } or [ ].
            int made = bench.tongue.count(10) + (unit.matches("kind\\(\\[.*|.*\\{.*") ? 1 : 0);
            int shapes = bench.tongue.count(12) + (memory == VALUES ? 1 : 0);
            int traced = bench.tongue.count(16);
            int printed = bench.tongue.count(15);
            int calls = bench.tongue.count(11);
            bench.runUnit(1, bench.tongue.count(3) - 1);
            Bench.due(unit + " with " + (need - 1) + " left", bench.tongue.task(1, 0), 4);
            int f = bench.tongue.task(1, 3);
            Bench.due("the instruction that is not done", bench.tongue.code(f, bench.tongue.task(1, 4), 0), op);
            Bench.due("nothing made", bench.tongue.count(10) <= made && bench.tongue.count(12) <= shapes, true);
            Bench.due("nothing traced, printed or called", (bench.tongue.count(16) - traced) + " " + (bench.tongue.count(15) - printed)
                    + " " + (bench.tongue.count(11) - calls), "0 0 1");
        }
    }

    private static void wholeAmounts() {
        Bench.about("term 9: MEMORY: in the whole life");
        // What the setup takes: a thing and a start; the texts of 20, 40 .. 1280 signs.
        String[][] memories = {MADE, VALUES, TEXTS, BYTES, SHAPES};
        long[] due = {8000 - 2 - 1, 60000, 12000 - 7, 200000 - 20 * 127, 4000};
        for (int i = 0; i < due.length; i++) {
            left(memories[i], "", "", 5);
            Bench.due("how many of " + memories[i][2], PROBED.get(memories[i][0]), due[i]);
        }
        String hundred = "s = \"01234567890123456789\"; s = s + s + s + s + s; i = 0; n = 0; while (i < N) { t = s.sub(0, 99); i = i +"
                + " 1; } while (n < 5) { s.sub(0, 1); n = n + 1; } ";
        // 40 + 60 + 80 + 100 bytes by +, 2017 times 99, then some single ones: 199968 and 37 to come.
        Bench bench = Bench.ran(hundred.replace("N", "2017"));
        Bench.due("280 and 199683 and 5", bench.tongue.task(0, 0) + " " + bench.global("n"), "2 2 5");
        bench.run(0, "s.sub(0, 32); k = 1; s.sub(0, 0); k = 2; s.sub(0, 1); k = 3;");
        Bench.due("the 200000th byte", bench.tongue.task(0, 0) + " " + bench.global("k"), "4 2 2");
    }

    private static void things() {
        Bench.about("term 9: MEMORY: 8000 things and calls made (a unit's start, too)");
        String host = "class A { new (); new (int); int m(); Text t(); int a; }";
        String setup = "A = host(\"A\"); a = new A(); o = {}; f = fun (x) { }; o.m = f; p = {}; q = make(p); F = fun () { };"
                + " F[\"proto\"] = p; t = \"text\"; l = [1, 2];";
        String[] ones = {"[];", "25", "[1, 2, 3];", "25", "({});", "26", "fun g() { }", "24", "v = fun () { };", "24", "make(null);", "28", "make(p);", "28", "make(o);", "28", "new A();", "27", "new A(5);",
                "27",
            "f();", "27", "f(1, 2, 3);", "27", "o.m(1);", "27"};
        for (int i = 0; i < ones.length; i += 2) {
            takes(MADE, host, setup, ones[i], 1, Integer.parseInt(ones[i + 1]));
        }
        takes(MADE, host, setup, "new F();", 2, 27);
        takes(MADE, host, setup, "new f(1);", 2, 27);
        String[] none = {"a.m(); a.t(); a.a = 1; a.a;", "o.x = 1; o.x; o[\"y\"] = 2; drop(o, \"x\"); turn(o, p);",
                "l.push(1); l.pop(); l[2] = 3;", "t + 1; t.sub(0, 1); t[0]; kind(t); print(t);",
                "try { throw 1; } catch (e) { } 1 + 2; host(\"A\"); proto(q); has(o, \"m\");"};
        for (String one : none) {
            takes(MADE, host, setup, one, 0, 0);
        }
        Bench bench = left(MADE, host, setup, 1);
        bench.run(1, "new F();");
        Bench.due("half of what NEW makes is not made", bench.tongue.task(1, 0) + " " + (bench.tongue.count(10) + bench.tongue.count(11)),
                "4 7999");
        bench = left(MADE, host, setup, 0);
        Bench.due("8000 less the start of what comes", bench.tongue.count(10) + bench.tongue.count(11), 7999);
    }

    private static void starts() {
        Bench.about("promise 13: or there is no MEMORY for a call");
        Bench bench = left(MADE, "", "", 0);
        bench.compile("");
        Bench.due("7999", bench.tongue.count(10) + bench.tongue.count(11), 7999);
        Bench.due("the last one", bench.tongue.start(1, 3), true);
        Bench.due("it RUNS", bench.told(1), "1 1 0 3 0");
        String told = bench.counts() + bench.told(0) + bench.end(0);
        Bench.due("none", bench.tongue.start(0, 3), false);
        Bench.due("nothing is changed", bench.counts() + bench.told(0) + bench.end(0), told);
        bench.tongue.steps(1, 9);
        Bench.due("none behind it", bench.tongue.start(1, 3) + " " + bench.tongue.start(1, 0) + " " + bench.end(1), "false false 2 0 0");
        Bench.due("count(11)", bench.tongue.count(10) + bench.tongue.count(11), 8000);
    }

    private static void values() {
        Bench.about("term 9: MEMORY: 60000 properties, elements, fields of instances and VARIABLES of calls in all");
        String host = "class P { int p; static int q; } class A : P { new (); int a; static Any s; Any b; } class B { new (); }";
        String setup = "A = host(\"A\"); B = host(\"B\"); a = new A(); o = { x: 1 }; l = [1]; f = fun () { }; fun v1(x) { } fun v3(x) {"
                + " var y; var z; } o.m = v3; p = make(o); t = \"t\";";
        takes(VALUES, host, setup, "o.y = 1;", 1, 27);
        takes(VALUES, host, setup, "p.x = 1;", 1, 27);
        takes(VALUES, host, setup, "f.x = null;", 1, 27);
        takes(VALUES, host, setup, "o[\"y\"] = 1;", 1, 27);
        takes(VALUES, host, setup, "x = { z: 1 };", 1, 27);
        takes(VALUES, host, setup, "l.push(1);", 1, 27);
        takes(VALUES, host, setup, "l[1] = 1;", 1, 27);
        takes(VALUES, host, setup, "[1];", 1, 25);
        takes(VALUES, host, setup, "[1, 2, 3, 4, 5];", 5, 25);
        takes(VALUES, host, setup, "v1();", 1, 27);
        takes(VALUES, host, setup, "v3(1);", 3, 27);
        takes(VALUES, host, setup, "o.m(1, 2, 3, 4);", 3, 27);
        takes(VALUES, host, setup, "new v3();", 3, 27);
        takes(VALUES, host, setup, "new A();", 3, 27);
        String[] none = {"o.x = 2; o[\"x\"] = 3; a.a = 4; A.s = 5; a.p = 6;", "l[0] = 2; l.pop(); l.size;",
                "[]; x = {}; make(o); y = fun () { }; f(); f(1, 2); new f();",
                "new B(); turn(p, null); t + 1; g = 5; v = 7;",
            "try { throw 1; } catch (e) { } drop(o, \"x\");"};
        for (String one : none) {
            takes(VALUES, host, setup, one, 0, 0);
        }
        Bench.about("term 9: each one that came to be, also if it went");
        takes(VALUES, host, setup, "l.pop(); l.push(1);", 1, 27);
        takes(VALUES, host, setup, "l.pop(); l[0] = 1;", 1, 27);
        Bench bench = left(VALUES, host, setup, 0);
        bench.run(1, "drop(o, \"x\"); o.x = 1;");
        Bench.due("a property that went", bench.tongue.task(1, 0) + " " + bench.tongue.thing(2, 3), "4 1");
        bench = left(VALUES, host, setup, 1);
        bench.run(1, "drop(o, \"x\"); o.x = 1; o.x = 2; o.y = 3;");
        Bench.due("one more of them", bench.tongue.task(1, 0) + " " + bench.tongue.thing(2, 3) + " " + bench.tongue.property(2, 1, 1),
                "4 2 2");
    }

    private static void texts() {
        Bench.about("term 9: MEMORY: 12000 texts made (by +, kind, sub, an element of a text, a host's method)");
        String host = "class A { new (); Text m(); static Text s(int); Text getT(); Text t; Text getU(); static Text getV(); Int i();"
                + " void setX(Any); Text setW(Any); Any any(Any); Text getK(); }";
        String setup = "A = host(\"A\"); a = new A(); t = \"text\"; o = { x: 1 }; a.t = t;";
        String[] ones = {"t + 1;", "7", "\"\" + \"\";", "7", "null + t;", "7", "kind(1);", "28", "kind(null);", "28", "kind(t);", "28",
                "t.sub(0, 2);", "27", "t.sub(0, 0);", "27", "t[0];", "27", "a.m();", "27", "A.s(1);", "27", "a.u;", "27", "a.getU();", "27",
            "A.v;", "27", "a.w = 1;", "27", "a.k;", "27"};
        for (int i = 0; i < ones.length; i += 2) {
            takes(TEXTS, host, setup, ones[i], 1, Integer.parseInt(ones[i + 1]));
        }
        String[] none = {"a.t; a.getT(); a.t = \"new\";", "a.i(); a.x = 1; new A(); a.any(t);",
                "\"a source's\"; t == t; t < t; t.size; o[t] = 1; o[\"q\"]; has(o, t); drop(o, t);",
                "print(t); print(12); print(a); print(A); print({});", "t; x = t; o.x = t; [t].pop(); host(\"A\"); 1 + 2;"};
        for (String one : none) {
            takes(TEXTS, host, setup, one, 0, 0);
        }
    }

    private static void bytes() {
        Bench.about("term 9: MEMORY: and 200000 bytes of these");
        String host = "class A { new (); Text m(); Text longname(); static Text st(); }";
        String setup = "A = host(\"A\"); a = new A(); t = \"text\";";
        String[] ones = {"t + 1;", "5", "7", "1 + t;", "5", "7", "t + t;", "8", "7", "t + null;", "8", "7", "t + false;", "9", "7",
                "t + -10;", "7", "7", "kind(1);", "3", "28", "kind(null);", "4", "28", "kind(true);", "4", "28", "v = kind({});", "6", "28",
                "kind([]);", "4", "28",
            "kind(A);", "5", "28", "kind(a);", "4", "28", "kind(t);", "4", "28", "kind(2147483647 + 1);", "4", "28", "t.sub(0, 4);", "4",
            "27", "t.sub(1, 2);", "1", "27", "t[3];", "1", "27", "a.m();", "1", "27", "a.longname();", "8", "27", "A.st();", "2", "27",
            "long_.sub(3, 1003);", "1000", "27"};
        for (int i = 0; i < ones.length; i += 3) {
            takes(BYTES, host, setup, ones[i], Integer.parseInt(ones[i + 1]),
                    Integer.parseInt(ones[i + 2]));
        }
        for (String none : new String[] {"\"\" + \"\";", "t.sub(2, 2);", "\"\".sub(0, 0);", "print(long_); print(t);",
                "\"a source's text takes none\";"}) {
            takes(BYTES, host, setup, none, 0, 0);
        }
        Bench bench = left(BYTES, host, setup, 7);
        bench.run(1, "n = 0; n = t.sub(0, 4); n = t.sub(0, 3); n = t + \"\";");
        Bench.due("up to the last byte", bench.tongue.task(1, 0) + " " + bench.global("n"), "4 3 3");
    }

    private static void shapes() {
        Bench.about("term 9: MEMORY: 4000 shapes (but shape 0)");
        String setup = "o = { x: 1 }; p = { x: 1, y: 2 }; q = make(p); f = fun () { }; l = [];";
        takes(SHAPES, "", setup, "make(o);", 1, 28);
        takes(SHAPES, "", setup, "o.z = 1;", 1, 27);
        takes(SHAPES, "", setup, "q.x = 1;", 1, 27);
        takes(SHAPES, "", setup, "f.z = 1;", 1, 27);
        takes(SHAPES, "", setup, "o[\"z\"] = 1;", 1, 27);
        takes(SHAPES, "", setup, "v = { z: 1 };", 1, 27);
        for (String none : new String[] {"v = {}; make(null); make(p); make(q.zz);", "v = { x: 1, y: 2 }; o.x = 5; o.y = 6;",
                "f(); new f(); l.push(1); o.zz; o[\"zz\"];", "drop(p, \"y\"); drop(p, \"x\"); drop(o, \"zz\");",
                "turn(q, null); turn(q, p); turn(q, p);"}) {
            takes(SHAPES, "", setup, none, 0, 0);
        }
        Bench bench = left(SHAPES, "", setup, 0);
        Bench.due("4000 and shape 0", bench.tongue.count(12), 4001);
        bench.compile("o.z = 1;");
        bench.runUnit(1, 3);
        int s = bench.tongue.function(3, 4);
        Bench.due("is there no room, nothing is LINKED", bench.site(s, 6, 10) + " " + bench.tongue.thing(1, 3), "0 0 0 0 0 1");
        bench = left(SHAPES, "", setup, 1);
        bench.run(1, "o.z = 1; f.z = 2;");
        Bench.due("the last one is made", bench.tongue.count(12) + " " + bench.tongue.task(1, 0) + " " + bench.tongue.thing(1, 3),
                "4001 4 2");
        bench = left(SHAPES, "", setup + " fun w(x) { x.zz = 1; } i = 0; while (i < 9) { v = {}; v[\"n\" + i] = 1; w(v); i = i + 1; }", 0);
        bench.run(1, "w(o);");
        Bench.due("at a MEGAMORPHIC site", bench.tongue.task(1, 0) + " " + bench.site(bench.tongue.function(1, 4), 6, 10), "4 9 0 0 0 1");
    }

    private static void shapesOfTurnAndDrop() {
        Bench.about("term 9: MEMORY: 4000 shapes: turn and drop make all that are wanted, or nothing is done");
        String setup = "o = { a: 1, b: 2, c: 3, d: 4 }; p = {}; q = {}; r = make(p); s = { b: 1, c: 2 }; k = make(o); x = { a: 1, c: 1 };";
        takes(SHAPES, "", setup, "turn(o, p);", 4, 28);
        takes(SHAPES, "", setup, "turn(o, q);", 5, 28);
        takes(SHAPES, "", setup, "turn(q, o);", 0, 28);
        takes(SHAPES, "", setup, "turn(q, p);", 0, 28);
        takes(SHAPES, "", setup, "turn(k, null);", 0, 28);
        takes(SHAPES, "", setup, "turn(p, q);", 1, 28);
        takes(SHAPES, "", setup, "turn(o, null);", 0, 28);
        takes(SHAPES, "", setup, "drop(o, \"a\");", 1, 28);
        takes(SHAPES, "", setup, "drop(o, \"b\");", 1, 28);
        takes(SHAPES, "", setup, "drop(o, \"c\");", 1, 28);
        takes(SHAPES, "", setup, "drop(o, \"d\");", 0, 28);
        takes(SHAPES, "", setup, "drop(s, \"b\");", 1, 28);
        takes(SHAPES, "", setup, "drop(s, \"c\");", 0, 28);
        String known = setup + " y = make(p); y.a = 1; z = { a: 1, b: 1, d: 1 }; w = { b: 1, c: 1 };";
        takes(SHAPES, "", known, "turn(o, p);", 3, 28);
        takes(SHAPES, "", known, "drop(o, \"c\");", 0, 28);
        takes(SHAPES, "", known, "drop(o, \"a\");", 1, 28);
        takes(SHAPES, "", known + " y.b = 2; y.c = 3;", "turn(o, p);", 1, 28);
        takes(SHAPES, "", known + " y.b = 2; y.c = 3; y.d = 4;", "turn(o, p);", 0, 28);
        for (int left = 0; left < 5; left++) {
            Bench bench = left(SHAPES, "", setup, left);
            String before = bench.thing(1) + ": " + bench.properties(1) + "; " + bench.thing(3);
            bench.run(1, "turn(o, q);");
            Bench.due("nothing of it with " + left, bench.thing(1) + ": " + bench.properties(1) + "; " + bench.thing(3) + " "
                    + bench.tongue.count(12), before + " " + (4001 - left));
            Bench.due("the values still lie there", bench.told(1).substring(0, 5), "4 1 2");
        }
        Bench bench = left(SHAPES, "", setup, 5);
        bench.run(1, "turn(o, q); return o.a + o.d;");
        Bench.due("all of it", bench.tongue.count(12) + " " + bench.tongue.thing(1, 2) + " " + bench.end(1), "4001 3 2 2 5");
        bench = left(SHAPES, "", setup, 0);
        String before = bench.thing(1) + ": " + bench.properties(1);
        bench.run(1, "drop(o, \"a\");");
        Bench.due("nothing of a drop", bench.thing(1) + ": " + bench.properties(1) + " " + bench.tongue.count(12), before + " 4001");
    }

    private static void shapesOfNew() {
        Bench.about("term 9: MEMORY: 4000 shapes: NEW of a fun");
        String setup = "p = {}; q = {}; make(q); fun F() { n = 1; } fun G() { } fun H() { } F[\"proto\"] = p; G[\"proto\"] = q; n = 0;";
        takes(SHAPES, "", setup, "new F();", 1, 27);
        takes(SHAPES, "", setup, "new G();", 0, 27);
        takes(SHAPES, "", setup, "new H();", 0, 27);
        Bench bench = left(SHAPES, "", setup, 0);
        int made = bench.tongue.count(10);
        int calls = bench.tongue.count(11);
        bench.compile("new F();");
        bench.runUnit(1, 3);
        Bench.due("nothing made or called", bench.tongue.task(1, 0) + " " + (bench.tongue.count(10) - made) + " "
                + (bench.tongue.count(11) - calls) + " " + bench.global("n"), "4 0 1 2 0");
        Bench.due("but its site has linked", bench.site(bench.tongue.function(bench.tongue.count(4) - 1, 4), 6, 10), "1 0 0 1 0");
    }

    private static void properties() {
        Bench.about("term 9: MEMORY: 64 properties of a thing");
        String[] makes = {"o = {};", "o = make({ x: 1 });", "fun o() { }", "fun F() { } o = new F();"};
        for (String make : makes) {
            String head = make + " i = 0; while (i < 63) { o[\"p\" + i] = i; i = i + 1; } ";
            Bench bench = Bench.ran(head + "o.last = 1; k = o.last; o.p0 = 9; o[\"p62\"] = 8; q = o.beyond; o.beyond = 2; k = 3;");
            Bench.due("the 65th is not set", bench.tongue.task(0, 0) + " " + bench.global("k"), "4 2 1");
            int thing = (int) Long.parseLong(bench.global("o").substring(2));
            Bench.due("64", bench.tongue.thing(thing, 3), 64);
            Bench.due("the first and the last", bench.tongue.property(thing, 0, 1) + " " + bench.tongue.property(thing, 62, 1) + " "
                    + bench.tongue.property(thing, 63, 1), "9 8 1");
            Bench.due("none beyond", Bench.answer(() -> bench.tongue.property(thing, 64, 0)), "IndexOutOfBoundsException");
            bench.run(1, "o[\"other\"] = 1;");
            Bench.due("as an element", bench.tongue.task(1, 0) + " " + bench.tongue.thing(thing, 3), "4 64");
            bench.run(1, "drop(o, \"p5\"); o[\"other\"] = 7; return o.other;");
            Bench.due("with one less there is room", bench.end(1) + " " + bench.tongue.thing(thing, 3), "2 2 7 64");
            bench.run(1, "try { o.more = 1; } catch (e) { }");
            Bench.due("no TRY helps", bench.tongue.task(1, 0) + " " + bench.tongue.thing(thing, 3), "4 64");
        }
        Bench bench = Bench.ran("l = []; i = 0; while (i < 200) { l[i] = i; i = i + 1; }");
        Bench.due("elements have no such end", bench.end(0) + " " + bench.tongue.thing(0, 3), "2 0 0 200");
        StringBuilder many = new StringBuilder("x = { a0: 0");
        for (int i = 1; i < 64; i++) {
            many.append(", a").append(i).append(": 0");
        }
        Bench.due("an object of 64", Bench.ran(many + " };").end(0), "2 0 0");
        Bench.due("an object of 65", Bench.ran(many + ", b: 0 };").tongue.task(0, 0), 4);
        Bench.due("one of them twice", Bench.ran(many + ", a7: 0 };").end(0), "2 0 0");
    }

    private static void names() {
        Bench.about("term 9: MEMORY: 4000 names");
        String fill = "o = {}; p = make(o); i = 0; while (i < N) { o[\"~\" + i]; i = i + 1; }";
        String[] wants = {"o[\"zz z\"];", "o[\"zz z\"] = 1;", "p[\"zz\" + \" z\"];", "(fun () { })[\"zz z\"];"};
        for (String one : wants) {
            for (int left = 0; left < 2; left++) {
                Bench bench = Bench.ran(fill.replace("N", "" + (3997 - left)));
                Bench.due("names", bench.tongue.count(8), 4000 - left);
                bench.run(1, one);
                Bench.due(one + " with " + left, bench.tongue.task(1, 0) + " " + bench.tongue.count(8), (left == 1 ? "2" : "4") + " 4000");
            }
        }
        Bench bench = Bench.ran(fill.replace("N", "3997"));
        int asked = bench.tongue.count(20);
        bench.run(1, "o[\"~5\"]; o[\"i\"] = 1; has(o, \"zz z\"); drop(o, \"zz z\"); \"zz z\"; o.i; try { o[\"\"]; } catch (p) { }"
                + " return o[\"~3996\"];");
        Bench.due("what needs none", bench.end(1) + " " + (bench.tongue.count(20) - asked), "2 0 0 5");
        bench.run(1, "o[\"zz z\"];");
        Bench.due("nothing is asked or counted", bench.tongue.count(20) - asked + " " + bench.site(bench.tongue.count(6) - 1, 6, 10),
                "5 0 0 0 0 0");
        Bench.due("a unit's, too", bench.fault("o; zz;"), 7 + 16 * 3);
    }

    private static void output() {
        Bench.about("term 9: MEMORY: 65536 bytes of OUTPUT");
        String fill = "t = \"0123456789\"; t = t + t + t; s = t + t + t + \"012345678\"; i = 0; while (i < 655) { print(s); i = i + 1; } ";
        // 655 times 100 are 65500: 36 are left.
        String[] last = {"print(t + \"01234\");", "2", "65536", "print(t + \"012345\");", "4", "65500", "print(t); print(null);", "2",
                "65536", "print(t); print(true);", "2", "65536", "print(t); print(false);", "4", "65531", "print(t); print(12345);", "4",
                "65531",
            "print(t); print(-123);", "2", "65536", "print(t + \"0\"); print([]); print({});", "4", "65535",
            "print(t + \"0\"); print([]); print(\"\");", "2", "65536", "print(t + \"01234\"); print(\"\");", "4", "65536",
            "print(t + \"0\"); print(fun () { });", "2", "65536"};
        for (int i = 0; i < last.length; i += 3) {
            Bench bench = Bench.ran(fill + last[i]);
            Bench.due(last[i], bench.tongue.task(0, 0) + " " + bench.tongue.count(15), last[i + 1] + " " + last[i + 2]);
            Bench.due("behind the last", bench.tongue.output(bench.tongue.count(15) - 1) + " "
                    + bench.tongue.output(bench.tongue.count(15)), "10 -1");
        }
        Bench bench = Bench.ran(fill + "print(t + \"01234\");");
        bench.run(1, "x = 5; print(\"\"); x = 6;");
        Bench.due("a whole one or nothing", bench.tongue.task(1, 0) + " " + bench.global("x") + " " + bench.told(1).substring(0, 5),
                "4 2 5 4 1 1");
        bench.host("class A { new (); }");
        bench.run(0, "print(new (host(\"A\"))());");
        Bench.due("since the host was told", bench.output(), "A@0\n");
    }

    private static void trace() {
        Bench.about("term 9: MEMORY: 100000 numbers of TRACE");
        String host = "class A { new (); new (int); int m(); Text t(); int getB(); int b; void setC(int); int c; static int s(); int d;"
                + " void setB(int); }";
        String fill = "A = host(\"A\"); a = new A(); o = {}; i = 0; while (i < N) { a.m(); a.m(); a.m(); a.m(); a.m(); a.m(); i = i +"
                + " 1; } k = 0; while (k < M) { a.m(); k = k + 1; }";
        // One constructor, and N * 6 + M methods: 49999 are the last of 50000 but one.
        String[] ones = {"new A();", "new A(1);", "a.m();", "a.t();", "a.b;", "a.c = 7;", "A.s();", "a.b = 7;"};
        for (String one : ones) {
            Bench bench = Bench.ran(host, fill.replace("N", "8333").replace("M", "0"));
            Bench.due("two left", bench.tongue.count(16), 99998);
            bench.run(1, one);
            Bench.due("the last, " + one, bench.tongue.count(16) + " " + bench.tongue.task(1, 0), "100000 2");
            int made = bench.tongue.count(10);
            String fields = bench.tongue.property(0, 0, 1) + " " + bench.tongue.property(0, 1, 1);
            int choices = bench.tongue.count(13);
            bench.run(1, one.replace("7", "8"));
            Bench.due("one more, " + one, bench.tongue.count(16) + " " + bench.tongue.task(1, 0), "100000 4");
            Bench.due("nothing is done by it", bench.tongue.count(10) - made + ", " + bench.tongue.property(0, 0, 1) + " "
                    + bench.tongue.property(0, 1, 1), "0, " + fields);
            Bench.due("what its site has chosen and linked stays", bench.site(bench.tongue.count(6) - 1, 6, 10) + " "
                    + (bench.tongue.count(13) - choices), "1 0 0 1 0 0");
            bench.run(1, "a.d = 3; a.d; host(\"A\"); return a.d;");
            Bench.due("fields take none", bench.end(1), "2 2 3");
        }
        Bench bench = Bench.ran(host, fill.replace("N", "8333").replace("M", "1"));
        bench.run(1, "try { a.m(5); } catch (e) { print(e); } try { a.zz(); } catch (e) { print(e); } try { new A(null); } catch (e) {"
                + " print(e); }");
        Bench.due("ERRORS come ahead of it", bench.output(), "9\n4\n9\n");
    }

    private static void errorsComeAhead() {
        Bench.about("term 9: an ERROR is none that goes beyond MEMORY");
        String host = "class A { new (); Text t(); }";
        String setup = "A = host(\"A\"); a = new A(); o = {}; l = []; t = \"t\"; m = make(o);";
        String[] ones = {"t + o;", "1", "o + t;", "1", "t[1];", "6", "t.sub(0, 2);", "6", "t.sub(1, null);", "6", "a.t(1);", "9",
                "t[\"a\"];", "6"};
        for (int i = 0; i < ones.length; i += 2) {
            Bench bench = left(TEXTS, host, setup, 0);
            bench.run(1, ones[i]);
            Bench.due("without a text left " + ones[i], bench.end(1), "3 2 " + ones[i + 1]);
        }
        String[] twos = {"make(1);", "12", "o();", "5", "new o();", "5", "new A(1);", "9", "null();", "3", "o.zz();", "4", "new 1();", "3"};
        for (int i = 0; i < twos.length; i += 2) {
            Bench bench = left(MADE, host, setup, 0);
            bench.run(1, twos[i]);
            Bench.due("without a thing left " + twos[i], bench.end(1), "3 2 " + twos[i + 1]);
        }
        String[] threes = {"l[1] = 1;", "6", "l[-1] = 1;", "6", "l.push();", "4", "o[1] = 1;", "6"};
        for (int i = 0; i < threes.length; i += 2) {
            Bench bench = left(VALUES, host, setup, 0);
            bench.run(1, threes[i]);
            Bench.due("without a value left " + threes[i], bench.end(1), "3 2 " + threes[i + 1]);
        }
        Bench bench = left(SHAPES, host, setup, 0);
        bench.run(1, "try { turn(o, m); } catch (e) { print(e); } try { make(l); } catch (e) { print(e); } try { o[\"\"] = 1; } catch"
                + " (e) { print(e); } try { l.x = 1; } catch (e) { print(e); }");
        Bench.due("without a shape left", bench.output() + bench.tongue.task(1, 0), "12\n12\n6\n5\n2");
        Bench.about("term 9: ERROR 11 comes ahead of all else");
        bench = left(MADE, "", "fun f(n) { if (n == 1) { g(); } else { f(n - 1); } }", 199);
        bench.run(1, "f(199);");
        Bench.due("the 201st call without a call left", bench.end(1) + " " + (bench.tongue.count(10) + bench.tongue.count(11)),
                "3 2 10 8000");
        bench = left(MADE, "", "fun f(n) { if (n == 0) { return f; } f(n - 1); }", 199);
        bench.run(1, "f(199);");
        Bench.due("the 201st call without a call left", bench.end(1) + " " + (bench.tongue.count(10) + bench.tongue.count(11)),
                "3 2 11 8000");
        bench = left(MADE, "", "fun f(n) { if (n == 0) { return f; } f(n - 1); }", 198);
        bench.run(1, "f(199);");
        Bench.due("the 200th call without a call left", bench.tongue.task(1, 0) + " " + bench.tongue.task(1, 1), "4 199");
        StringBuilder list = new StringBuilder("[0");
        for (int i = 1; i < 2000; i++) {
            list.append(",0");
        }
        for (String one : new String[] {",[]];", ",{}];", ",fun () { }];"}) {
            bench = left(MADE, "", "", 0);
            bench.run(1, list + one);
            Bench.due("the 2001st value without a thing left " + one, bench.end(1), "3 2 11");
        }
    }

    private static void whatStays() {
        Bench.about("term 9: but what its site has pruned, counted, linked or chosen stays");
        String setup = "p = { n: fun () { } }; o = make(p); f = fun (x) { }; fun g(x) { return x.n(); } fun c(x) { return x(); } g(o);"
                + " c(f); p.k = 1; l = [];";
        Bench bench = left(MADE, "", setup, 1);
        bench.run(1, "g(o);");
        Bench.due("a METHOD has pruned and linked", bench.tongue.task(1, 0) + " " + bench.site(bench.tongue.function(3, 4), 6, 10),
                "4 2 0 1 1 0");
        bench = left(MADE, "", setup, 1);
        bench.run(1, "c(f);");
        Bench.due("a CALL has a HIT", bench.tongue.task(1, 0) + " " + bench.site(bench.tongue.function(4, 4), 6, 10), "4 1 1 0 1 0");
        bench = left(MADE, "", setup, 1);
        bench.run(1, "c(p.n);");
        Bench.due("a CALL has a LINK", bench.tongue.task(1, 0) + " " + bench.site(bench.tongue.function(4, 4), 6, 10), "4 2 0 0 2 0");
        bench = left(MADE, "", setup, 0);
        int asked = bench.tongue.count(20);
        bench.run(1, "new f();");
        Bench.due("a NEW was asked", bench.tongue.task(1, 0) + " " + (bench.tongue.count(20) - asked) + " "
                + bench.site(bench.tongue.count(6) - 1, 6, 10), "4 1 1 0 0 1 0");
        bench = left(VALUES, "", setup, 0);
        bench.run(1, "l.push(1);");
        Bench.due("a list's", bench.site(bench.tongue.function(bench.tongue.count(4) - 1, 4), 6, 10) + " " + bench.tongue.task(1, 0),
                "1 0 0 1 0 4");
        bench = left(VALUES, "", setup, 0);
        int shapes = bench.tongue.count(12);
        bench.run(1, "o.zz = 1;");
        Bench.due("a SET has made its shape", bench.site(bench.tongue.function(bench.tongue.count(4) - 1, 4), 6, 10) + " "
                + (bench.tongue.count(12) - shapes) + " " + bench.tongue.thing(3, 3), "1 0 0 1 0 1 0");
        String host = "class A { new (); new (int); int a; int b; }";
        bench = left(VALUES, host, "A = host(\"A\"); a = new A();", 1);
        bench.run(1, "new A(1);");
        Bench.due("a CHOICE is kept", bench.tongue.task(1, 0) + " " + bench.tongue.count(13) + " " + bench.tongue.count(14) + " "
                + bench.tongue.count(16) + " " + bench.site(bench.tongue.count(6) - 1, 6, 10), "4 2 2 2 1 0 0 1 0");
    }

    private static void noTryHelps() {
        Bench.about("term 9: its task has STOPPED (no TRY helps)");
        String[] memories = {"[];", "({});", "fun f() { }", "f();", "new f();", "make(null);"};
        for (String one : memories) {
            Bench bench = left(MADE, "", "fun f() { } s = 0;", 0);
            bench.run(1, "try { try { " + one + " s = 1; } catch (e) { s = 2; } s = 3; } catch (e) { s = 4; } s = 5;");
            Bench.due(one, bench.tongue.task(1, 0) + " " + bench.global("s"), "4 2 0");
            Bench.due("no steps", Bench.answer(() -> bench.tongue.steps(1, 1)), "IllegalStateException");
            Bench.due("no result", Bench.answer(() -> bench.tongue.result(1, 0)), "IllegalStateException");
            Bench.due("the other task goes on as it is", bench.end(0), "2 0 0");
        }
    }

    private static void aNewHostGivesNoneBack() {
        Bench.about("term 9: in the whole life, a new host gives none back");
        Bench bench = left(MADE, "", "", 1);
        bench.host("");
        bench.compile("[]; [];");
        Bench.due("counts begin anew", bench.tongue.count(10) + " " + bench.tongue.count(11), "0 0");
        Bench.due("one start", bench.runUnit(1, 0) + " " + bench.tongue.task(1, 0) + " " + bench.tongue.count(10), "2 4 1");
        Bench.due("no other", bench.tongue.start(0, 0), false);
        bench.host("class A { }");
        bench.compile("");
        Bench.due("nor behind a third", bench.tongue.start(0, 0), false);
        bench = left(VALUES, "", "l = [];", 2);
        bench.host("");
        bench.run(1, "l = [1]; l.push(2); l.push(3);");
        Bench.due("values", bench.tongue.task(1, 0) + " " + bench.tongue.thing(0, 3), "4 2");
        bench = left(TEXTS, "", "", 2);
        bench.host("");
        bench.run(1, "n = 0; kind(1); n = 1; \"\" + 1; n = 2; \"a\"[0]; n = 3;");
        Bench.due("texts", bench.tongue.task(1, 0) + " " + bench.global("n"), "4 2 2");
        bench = left(BYTES, "", "", 5);
        bench.host("class A { new (); Text ab(); }");
        bench.run(1, "n = 0; kind(1); n = 1; a = new (host(\"A\"))(); a.ab(); n = 2; \"a\"[0]; n = 3;");
        Bench.due("bytes", bench.tongue.task(1, 0) + " " + bench.global("n"), "4 2 2");
        bench = left(SHAPES, "", "", 2);
        bench.host("");
        bench.run(1, "o = { a: 1, b: 2 }; p = { a: 3 }; p.c = 4;");
        Bench.due("shapes", bench.tongue.task(1, 0) + " " + bench.tongue.count(12) + " " + bench.tongue.thing(1, 3), "4 3 1");
    }

    private static void sinceTheHostWasTold() {
        Bench.about("term 9: since the host was told 64 properties of a thing, 4000 names, 65536 bytes of OUTPUT, 100000 numbers of TRACE");
        Bench bench = new Bench();
        for (int i = 0; i < 3; i++) {
            bench.host("");
            bench.run(0, "o = {}; i = 0; while (1) { o[\"x\" + i] = i; i = i + 1; }");
            Bench.due("properties", bench.tongue.task(0, 0) + " " + bench.tongue.thing(0, 3), "4 64");
            bench.run(0, "s = \"0123456789012345678901234567890123456789012345678901234567\"; while (1) { print(s); }");
            Bench.due("OUTPUT", bench.tongue.task(0, 0) + " " + bench.tongue.count(15), "4 " + 65536 / 59 * 59);
        }
        bench = new Bench();
        for (int i = 0; i < 2; i++) {
            bench.host("class A { new (); void m(); }");
            bench.run(0, "a = new (host(\"A\"))(); while (1) { " + Bench.times("a.m();", 20) + " }");
            Bench.due("TRACE", bench.tongue.task(0, 0) + " " + bench.tongue.count(16), "4 100000");
        }
        bench = new Bench();
        for (int i = 0; i < 2; i++) {
            bench.host("");
            bench.run(0, "o = {}; i = 0; while (1) { o[\"n\" + i]; i = i + 1; }");
            Bench.due("NAMES", bench.tongue.task(0, 0) + " " + bench.global("i") + " " + bench.tongue.count(8) + " "
                    + bench.fault("zz;"), "4 2 3998 4000 7");
        }
    }

    private static void stoppedTask() {
        Bench.about("promises 14 and 15: the one that would go beyond MEMORY is none; calls and what is next of a task that STOPPED");
        Bench bench = left(MADE, "", "fun f(n) { if (n == 0) { return [n, {}]; } return 1 + f(n - 1); }", 3);
        bench.compile("1 + 2 * f(2);");
        bench.tongue.start(1, 3);
        int done = bench.tongue.steps(1, 1000);
        Bench.due("state, calls, pile, function, instruction", bench.told(1), "4 4 5 1 5");
        Bench.due("what comes next is the OBJECT", bench.tongue.code(1, 5, 0), 26);
        Bench.due("steps", done, 5 + 10 + 10 + 5);
        Bench.due("as of now", bench.told(1) + " " + bench.tongue.start(1, 3) + " " + bench.told(1), "4 4 5 1 5 false 4 4 5 1 5");
    }
}
