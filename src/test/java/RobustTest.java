import java.util.NoSuchElementException;
import java.util.Random;

/** Whatever is fed and asked, nothing but what the document tells is thrown, and WRONG stays 0. */
public final class RobustTest {
    private static final String[] TOKENS = ("( ) { } [ ] , ; . : = == != < <= > >= + - * / % ! && || var fun if else while return throw try"
            + " catch new this null true false print make proto turn drop has kind host a b o p q l 0 1 2 7 \"a\" \"b\" \"size\" \"A\""
            + " a ; ; o . a = 1 ; ( ) { } class interface static void int Any A B I long bool Text ... m n").split(" ");
    private static final String[] STATEMENTS = {"o.a = i;", "p = make(o);", "turn(o, p);", "turn(p, o);", "drop(o, \"a\");", "l.push(o);",
        "o = l[i % l.size];", "p = l[(i * 3) % l.size];", "print(o.a);", "o.m(i);", "o = { a: 1, b: p };", "p.b = o.a;", "o[\"x\" + i % 5] = i;",
        "print(p[\"x\" + i % 3]);", "p = new f(i);", "f[\"proto\"] = o;", "l.pop();", "o = [1, \"t\"];", "o = f;", "o.b;", "p.a;", "l[0].a;",
        "o = new (host(\"A\"))(i);", "p = host(\"A\");", "o.n(p, i);", "p.m(o);", "o.x = p;", "print(o.x);", "throw o;", "q(i);"};

    public static void main(String[] args) {
        Random random = new Random(20261115);
        for (int i = 0; i < 3000; i++) {
            garbage(random);
        }
        for (int i = 0; i < 1000; i++) {
            program(random);
        }
        Bench.end();
    }

    private static void garbage(Random random) {
        Bench bench = new Bench();
        StringBuilder text = new StringBuilder();
        int size = random.nextInt(40);
        for (int i = 0; i < size; i++) {
            text.append(TOKENS[random.nextInt(TOKENS.length)]).append(random.nextInt(9) == 0 ? "" : " ");
        }
        if (random.nextBoolean()) {
            bench.host(random.nextBoolean() ? text.toString() : "class A { " + text + " }");
        }
        bench.compile(random.nextBoolean() ? text.toString() : "o = 1; " + text + ";");
        step(bench, random);
        ask(bench, random);
    }

    private static void program(Random random) {
        Bench bench = new Bench();
        bench.host("class B { Any x; int a; } class A : B { new (Any...); new (int); Any m(Any); int m(int); Text n(Any, long); void setA(int); }");
        StringBuilder text = new StringBuilder("l = [{}, { a: 1 }, {}]; o = l[0]; p = l[1]; fun f(a) { this.z = a; } fun q(n) { return n; }"
                + " o.m = q; i = 0; while (i < 60) { i = i + 1; ");
        int size = 3 + random.nextInt(12);
        for (int i = 0; i < size; i++) {
            String one = STATEMENTS[random.nextInt(STATEMENTS.length)];
            text.append("try { ").append(one).append(" } catch (e) { } ");
        }
        Bench.due("compile()", bench.compile(text + "}"), 0);
        for (int i = 0; i < 3; i++) {
            step(bench, random);
        }
        Bench.due("WRONG", bench.tongue.count(17), 0);
        ask(bench, random);
    }

    private static void step(Bench bench, Random random) {
        int t = random.nextInt(2);
        bench.tongue.start(t, 0);
        for (int i = 0; i < 5 && bench.tongue.task(t, 0) == 1; i++) {
            bench.tongue.steps(t, 1 + random.nextInt(1000));
        }
    }

    private static int any(Random random) {
        int[] edges = {Integer.MIN_VALUE, -1, 0, 1, 2, 3, Integer.MAX_VALUE};
        return random.nextInt(4) == 0 ? edges[random.nextInt(edges.length)] : random.nextInt(30) - 2;
    }

    private static void ask(Bench bench, Random random) {
        Face.Real x = (Face.Real) bench.tongue;
        for (int i = 0; i < 60 && x.left() >= 19; i++) {
            x.type(any(random), any(random));
            x.member(any(random), any(random));
            x.subtype(any(random), any(random));
            x.function(any(random), any(random));
            x.code(any(random), any(random), any(random));
            x.site(any(random), any(random));
            x.entry(any(random), any(random), any(random));
            x.name(any(random), any(random));
            x.task(any(random), any(random));
            x.sign(any(random), any(random));
            x.thing(any(random), any(random));
            x.shape(any(random), any(random));
            x.output(any(random));
            x.trace(any(random));
            x.count(any(random));
            askWhatThrows(x, random);
        }
    }

    private static void askWhatThrows(Face x, Random random) {
        int threw = 0;
        try {
            x.property(any(random), any(random), any(random));
        } catch (IndexOutOfBoundsException e) {
            threw += e.getClass() == IndexOutOfBoundsException.class ? 0 : 1;
        }
        try {
            x.result(any(random), any(random));
        } catch (IndexOutOfBoundsException e) {
            threw += e.getClass() == IndexOutOfBoundsException.class ? 0 : 1;
        } catch (IllegalStateException e) {
            threw += e.getClass() == IllegalStateException.class ? 0 : 1;
        }
        try {
            x.global(any(random));
        } catch (IndexOutOfBoundsException e) {
            threw += e.getClass() == IndexOutOfBoundsException.class ? 0 : 1;
        } catch (NoSuchElementException e) {
            threw += e.getClass() == NoSuchElementException.class ? 0 : 1;
        }
        try {
            x.steps(any(random), any(random));
        } catch (IllegalArgumentException e) {
            threw += e.getClass() == IllegalArgumentException.class ? 0 : 1;
        } catch (IllegalStateException e) {
            threw += e.getClass() == IllegalStateException.class ? 0 : 1;
        }
        Bench.due("what the machine throws", threw, 0);
    }
}
