import java.util.NoSuchElementException;
import java.util.function.Supplier;

/** One object of the class under test, with texts fed as such, and a count of wrong answers. */
final class Bench {
    private static int wrong;
    private static String label = "";

    final Face tongue;

    Bench() {
        this(new Face.Real());
    }

    Bench(Face tongue) {
        this.tongue = tongue;
    }

    /** One that may be asked more than the document says something about. */
    static Bench late() {
        return new Bench(new Face.Real(Integer.MAX_VALUE));
    }

    /** As many objects made alike as it takes to ask what changes nothing. */
    static Bench alike(Supplier<Bench> made) {
        return new Bench(new Face.Alike(() -> (Face.Real) made.get().tongue));
    }

    /** Names the promise or rule that the answers asked for next belong to. */
    static void about(String what) {
        label = what;
    }

    static void due(String call, long got, long want) {
        if (got != want) {
            wrong++;
            System.out.println(label + ": " + call + " answered " + got + ", due is " + want);
        }
    }

    static void due(String call, String got, String want) {
        if (!got.equals(want)) {
            wrong++;
            System.out.println(label + ": " + call + " answered <" + got + ">, due is <" + want + ">");
        }
    }

    static void due(String call, boolean got, boolean want) {
        due(call, got ? 1 : 0, want ? 1 : 0);
    }

    /** A call of the face that may throw. */
    interface Call {
        long answer();
    }

    /** What a call answers, or the name of just the class that it throws. */
    static String answer(Call call) {
        try {
            return "" + call.answer();
        } catch (RuntimeException e) {
            return e.getClass().getSimpleName();
        }
    }

    static String times(String text, int n) {
        return text.repeat(n);
    }

    /** Ends a test's main method. */
    static void end() {
        if (wrong != 0) {
            System.out.println(wrong + " answers are not as due");
            System.exit(1);
        }
    }

    /** Feeds a text, sixteen signs a call. */
    Bench feed(String text) {
        for (int i = 0; i < text.length(); i += 16) {
            long[] halves = new long[2];
            for (int j = 0; j < 16 && i + j < text.length(); j++) {
                halves[j / 8] |= (long) text.charAt(i + j) << 56 - 8 * (j % 8);
            }
            tongue.feed(halves[0], halves[1]);
        }
        return this;
    }

    int host(String text) {
        feed(text);
        return tongue.host();
    }

    int compile(String text) {
        feed(text);
        return tongue.compile();
    }

    /** The fault of a unit, or NONE if it has none. */
    int fault(String text) {
        int answer = compile(text);
        return answer < 0 ? -1 - answer : -1;
    }

    /** Compiles a unit and does all its steps in a task; how many were done. */
    int run(int task, String text) {
        int unit = compile(text);
        if (unit < 0) {
            return unit;
        }
        return runUnit(task, unit);
    }

    int runUnit(int task, int unit) {
        if (!tongue.start(task, unit)) {
            return -1000;
        }
        int done = 0;
        for (int i = 0; i < 600; i++) {
            int more = stepsOf(task);
            done += more;
            if (more < 1000) {
                return done;
            }
        }
        return done;
    }

    /** A thousand steps of a task, none if it runs no more. */
    private int stepsOf(int task) {
        try {
            return tongue.steps(task, 1000);
        } catch (IllegalStateException e) {
            return 0;
        }
    }

    /** A new object that has run a unit in task 0. */
    static Bench ran(String text) {
        Bench bench = new Bench();
        bench.run(0, text);
        return bench;
    }

    /** A new object with a host that has run a unit in task 0. */
    static Bench ran(String host, String text) {
        Bench bench = new Bench();
        int fault = bench.host(host);
        if (fault != 0) {
            due("host()", fault, 0);
        }
        bench.run(0, text);
        return bench;
    }

    String output() {
        StringBuilder text = new StringBuilder();
        for (int c = tongue.output(0); c >= 0; c = tongue.output(text.length())) {
            text.append((char) c);
        }
        return text.toString();
    }

    String trace() {
        StringBuilder text = new StringBuilder();
        int size = tongue.count(16);
        for (int i = 0; i < size; i++) {
            text.append(i == 0 ? "" : " ").append(tongue.trace(i));
        }
        return text.toString();
    }

    String name(int n) {
        StringBuilder text = new StringBuilder();
        for (int c = tongue.name(n, 0); c >= 0; c = tongue.name(n, text.length())) {
            text.append((char) c);
        }
        return text.toString();
    }

    /** All of a function's instructions, A and B behind each OP. */
    String code(int f) {
        StringBuilder text = new StringBuilder();
        int size = tongue.function(f, 3);
        for (int i = 0; i < size; i++) {
            text.append(i == 0 ? "" : "; ").append(tongue.code(f, i, 0)).append(' ')
                    .append(tongue.code(f, i, 1)).append(' ').append(tongue.code(f, i, 2));
        }
        return text.toString();
    }

    /** Some of what is told of a site: from one what up to another. */
    String site(int s, int from, int to) {
        StringBuilder text = new StringBuilder();
        for (int what = from; what <= to; what++) {
            text.append(what == from ? "" : " ").append(tongue.site(s, what));
        }
        return text.toString();
    }

    String entry(int s, int k) {
        StringBuilder text = new StringBuilder();
        for (int what = 0; what <= 5; what++) {
            text.append(what == 0 ? "" : " ").append(tongue.entry(s, k, what));
        }
        return text.toString();
    }

    String shape(int k) {
        StringBuilder text = new StringBuilder().append(tongue.shape(k, 0));
        int size = tongue.shape(k, 1);
        for (int what = 2; what < 2 + size; what++) {
            text.append(' ').append(name(tongue.shape(k, what)));
        }
        return text.toString();
    }

    String thing(int k) {
        StringBuilder text = new StringBuilder();
        for (int what = 0; what <= 5; what++) {
            text.append(what == 0 ? "" : " ").append(tongue.thing(k, what));
        }
        return text.toString();
    }

    /** How a task is, and the value it ended with: a kind, and what result() tells of it. */
    String end(int task) {
        String state = "" + tongue.task(task, 0);
        try {
            return state + " " + tongue.result(task, 0) + " " + tongue.result(task, 1);
        } catch (IllegalStateException e) {
            return state;
        }
    }

    /** The text that a task ended with. */
    String text(int task) {
        StringBuilder text = new StringBuilder();
        for (int c = tongue.sign(task, 0); c >= 0; c = tongue.sign(task, text.length())) {
            text.append((char) c);
        }
        return text.toString();
    }

    String global(String name) {
        try {
            feed(name);
            long kind = tongue.global(0);
            feed(name);
            return kind + " " + tongue.global(1);
        } catch (NoSuchElementException e) {
            return "none";
        } catch (IndexOutOfBoundsException e) {
            return "no such what";
        }
    }

    /** All counts but the tape's length. */
    String counts() {
        StringBuilder text = new StringBuilder("counts");
        for (int what = 1; what <= 23; what++) {
            text.append(' ').append(tongue.count(what));
        }
        return text.toString();
    }

    String told(int task) {
        StringBuilder text = new StringBuilder();
        for (int what = 0; what <= 4; what++) {
            text.append(what == 0 ? "" : " ").append(tongue.task(task, what));
        }
        return text.toString();
    }

    String type(int k) {
        StringBuilder text = new StringBuilder();
        for (int what = 0; what <= 4; what++) {
            text.append(what == 0 ? "" : " ").append(tongue.type(k, what));
        }
        return text.toString();
    }

    String member(int k) {
        StringBuilder text = new StringBuilder();
        int size = 6 + Math.max(0, tongue.member(k, 4));
        for (int what = 0; what < size; what++) {
            text.append(what == 0 ? "" : " ").append(tongue.member(k, what));
        }
        return text.toString();
    }

    String function(int f) {
        StringBuilder text = new StringBuilder();
        for (int what = 0; what <= 5; what++) {
            text.append(what == 0 ? "" : " ").append(tongue.function(f, what));
        }
        return text.toString();
    }

    /** The properties of a thing, of each one the kind, what is told of it, and the name. */
    String properties(int k) {
        StringBuilder text = new StringBuilder();
        int size = tongue.thing(k, 0) == 3 ? 0 : tongue.thing(k, 3);
        for (int i = 0; i < size; i++) {
            text.append(i == 0 ? "" : ", ").append(tongue.property(k, i, 0)).append(' ')
                    .append(tongue.property(k, i, 1)).append(' ').append(tongue.property(k, i, 2));
        }
        return text.toString();
    }

    /** All that can be asked but the tape's length. */
    String all() {
        return allTold() + allRun();
    }

    /** All that can be asked of objects made alike. */
    static String all(Supplier<Bench> made) {
        return alike(made).all();
    }

    /** What is told of the host and the units. */
    private String allTold() {
        StringBuilder text = new StringBuilder(counts());
        int types = tongue.count(1);
        for (int k = 0; k < types; k++) {
            text.append("\ntype ").append(type(k));
        }
        int members = tongue.count(2);
        for (int k = 0; k < members; k++) {
            text.append("\nmember ").append(member(k));
        }
        int functions = tongue.count(4);
        for (int f = 0; f < functions; f++) {
            text.append("\nfunction ").append(function(f)).append(": ").append(code(f));
        }
        int names = tongue.count(8);
        for (int n = 0; n < names; n++) {
            text.append("\nname ").append(name(n));
        }
        return text.toString();
    }

    /** What is told of the sites, the tasks, and what they have made. */
    private String allRun() {
        StringBuilder text = new StringBuilder();
        int sites = tongue.count(6);
        for (int s = 0; s < sites; s++) {
            text.append("\nsite ").append(site(s, 0, 10));
            int entries = tongue.site(s, 9);
            for (int k = 0; k < entries; k++) {
                text.append(", ").append(entry(s, k));
            }
        }
        for (int t = 0; t < 2; t++) {
            text.append("\ntask ").append(told(t)).append(", ").append(end(t)).append(' ').append(text(t));
        }
        int things = tongue.count(10);
        for (int k = 0; k < things; k++) {
            text.append("\nthing ").append(thing(k)).append(": ").append(properties(k));
        }
        int shapes = tongue.count(12);
        for (int k = 0; k < shapes; k++) {
            text.append("\nshape ").append(tongue.shape(k, 0));
            int size = tongue.shape(k, 1);
            for (int what = 2; what < 2 + size; what++) {
                text.append(' ').append(tongue.shape(k, what));
            }
        }
        return text + "\noutput " + output() + "\ntrace " + trace();
    }
}
