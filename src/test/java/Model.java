import java.util.ArrayList;
import java.util.Arrays;
import java.util.Collections;
import java.util.HashMap;
import java.util.LinkedHashMap;
import java.util.List;
import java.util.Map;
import java.util.NoSuchElementException;

/** A second, plain reading of the document: lists and maps, and each lookup from the beginning on. */
final class Model implements Face {
    /** An ERROR, or what is thrown in the language; of an ERROR that a lookup makes by itself nothing is linked. */
    private static final class Thrown extends RuntimeException {
        private static final long serialVersionUID = 1;
        final transient Object value;

        Thrown(Object value) {
            this.value = value;
        }
    }

    /** MEMORY is at its end. */
    private static final class NoRoom extends RuntimeException {
        private static final long serialVersionUID = 1;
    }

    private static final class Shape {
        int number;
        Thing proto;
        List<String> names;
    }

    private static final class Scope {
        Object[] values;
        Scope around;
    }

    /** 0 an object, 1 a fun, 2 a list, 3 an instance. */
    private static final class Thing {
        int number;
        int sort;
        Shape shape;
        final List<Object> values = new ArrayList<>();
        int epoch = -1;
        ModelTexts.Function function;
        Scope scope;
        ModelTexts.HostClass of;
    }

    private static final class Entry {
        int linker;
        Object guard;
        int guardNumber;
        List<Integer> es;
        String text;
        Thing holder;
        int which = -1;
        Shape comesTo;
        ModelTexts.Member member;
        final Map<Thing, Integer> epochs = new LinkedHashMap<>();

        boolean isStale() {
            for (Map.Entry<Thing, Integer> one : epochs.entrySet()) {
                if (one.getKey().epoch != one.getValue()) {
                    return true;
                }
            }
            return false;
        }
    }

    private static final class Site {
        int kind;
        String name;
        int es;
        int function;
        int instruction;
        int descriptor;
        int links;
        int hits;
        int pruned;
        boolean isMegamorphic;
        final List<Entry> entries = new ArrayList<>();
    }

    private static final class Call {
        ModelTexts.Function function;
        int next;
        Object self;
        boolean ofNew;
        Scope scope;
        /** Of each TRY where to go on, and the size of the pile. */
        final List<int[]> tries = new ArrayList<>();
    }

    private static final class Task {
        int state;
        final List<Call> calls = new ArrayList<>();
        final List<Object> pile = new ArrayList<>();
        Object end;
    }

    private StringBuilder tape = new StringBuilder();
    private List<ModelTexts.HostClass> classes = new ArrayList<>();
    private List<ModelTexts.Member> members = new ArrayList<>();
    private final Map<ModelTexts.Member, Object> statics = new HashMap<>();
    final List<Integer> units = new ArrayList<>();
    final List<ModelTexts.Function> functions = new ArrayList<>();
    final List<Site> sites = new ArrayList<>();
    private final List<String> descriptors = new ArrayList<>();
    final List<String> names = new ArrayList<>();
    final List<String> texts = new ArrayList<>();
    private final List<Thing> things = new ArrayList<>();
    private final List<Shape> shapes = new ArrayList<>();
    private final Map<List<Object>, Shape> shapesBy = new HashMap<>();
    private final Map<String, Object> globals = new HashMap<>();
    private StringBuilder output = new StringBuilder();
    private final List<Integer> trace = new ArrayList<>();
    private final Map<List<Object>, Integer> choices = new HashMap<>();
    private int calls;
    private int workedOut;
    private int[] asked = new int[4];
    private Task[] tasks = {new Task(), new Task()};
    // What the whole life has used up.
    private int made;
    private int values;
    private int madeTexts;
    private int bytes;
    private int madeShapes;
    private int keptInAll;

    Model() {
        addShape(null, List.of());
    }

    // The tape, hosts and units.

    public int feed(long a, long b) {
        StringBuilder more = new StringBuilder();
        for (int i = 0; i < 16; i++) {
            int c = (int) ((i < 8 ? a : b) >>> 56 - i % 8 * 8 & 255);
            if (c != 0 && c != 10 && (c < 32 || c > 126)) {
                return -1;
            }
            if (c != 0) {
                more.append((char) c);
            }
        }
        if (tape.length() + more.length() > 65536) {
            return -1;
        }
        return tape.append(more).length();
    }

    private String taken() {
        String text = tape.toString();
        tape = new StringBuilder();
        return text;
    }

    public int host() {
        ModelTexts reader = new ModelTexts(taken(), true);
        List<ModelTexts.HostClass> told;
        try {
            told = reader.readHost();
        } catch (ModelTexts.Fault fault) {
            return fault.told;
        }
        classes = told;
        members = reader.members();
        statics.clear();
        units.clear();
        functions.clear();
        sites.clear();
        descriptors.clear();
        names.clear();
        texts.clear();
        things.clear();
        shapes.clear();
        shapesBy.clear();
        globals.clear();
        output = new StringBuilder();
        trace.clear();
        choices.clear();
        calls = 0;
        workedOut = 0;
        asked = new int[4];
        tasks = new Task[] {new Task(), new Task()};
        addShape(null, List.of());
        for (ModelTexts.Member one : members) {
            statics.put(one, first(one.type));
        }
        return 0;
    }

    int instructionCount() {
        int count = 0;
        for (ModelTexts.Function f : functions) {
            count += f.code.size();
        }
        return count;
    }

    public int compile() {
        String text = taken();
        if (units.size() == 16) {
            return -8;
        }
        List<ModelTexts.Function> more;
        try {
            more = new ModelTexts(text, false).readUnit(this);
        } catch (ModelTexts.Fault fault) {
            return -1 - fault.told;
        }
        List<List<String>> words = ModelTexts.words(text);
        for (String name : words.get(0)) {
            if (!names.contains(name)) {
                names.add(name);
            }
        }
        for (String one : words.get(1)) {
            if (!texts.contains(one)) {
                texts.add(one);
            }
        }
        units.add(functions.size());
        functions.addAll(more);
        for (ModelTexts.Function f : more) {
            settle(f);
        }
        return units.size() - 1;
    }

    /** Numbers the sites of a function, finds its variables and the numbers of its names and texts. */
    private void settle(ModelTexts.Function f) {
        for (int i = 0; i < f.code.size(); i++) {
            int[] one = f.code.get(i);
            String word = f.words.get(i);
            if (one[0] == 27) {
                Site site = new Site();
                site.kind = one[1];
                site.es = one[2];
                site.name = word;
                site.function = f.number;
                site.instruction = i;
                String like = one[1] + " " + one[2] + " " + word;
                if (!descriptors.contains(like)) {
                    descriptors.add(like);
                }
                site.descriptor = descriptors.indexOf(like);
                one[1] = sites.size();
                one[2] = 0;
                sites.add(site);
            } else if (one[0] == 0 && one[1] == 4) {
                one[2] = texts.indexOf(word);
            } else if (one[0] == 3 || one[0] == 4) {
                int out = 0;
                ModelTexts.Function around = f;
                while (around != null && !around.variables.contains(word)) {
                    around = around.around;
                    out++;
                }
                if (around == null) {
                    one[1] = names.indexOf(word);
                } else {
                    one[0] -= 2;
                    one[1] = out;
                    one[2] = around.variables.indexOf(word);
                }
            }
        }
    }

    // What is told.

    public int type(int k, int what) {
        if (k < 0 || k >= classes.size()) {
            return -1;
        }
        ModelTexts.HostClass one = classes.get(k);
        switch (what) {
            case 0:
                return one.isInterface ? 1 : 0;
            case 1:
                return one.above == null ? -1 : one.above.number;
            case 2:
                return one.supers.size();
            case 3:
                return one.members.size();
            case 4:
                return one.first;
            default:
                return -1;
        }
    }

    public int member(int k, int what) {
        if (k < 0 || k >= members.size() || what < 0) {
            return -1;
        }
        ModelTexts.Member one = members.get(k);
        int[] told = {one.of.number, one.sort, one.isStatic ? 1 : 0, one.type, one.parameters.size(), one.isVariable ? 1 : 0};
        return what < 6 ? told[what] : what - 6 < one.parameters.size() ? one.parameters.get(what - 6) : -1;
    }

    public boolean subtype(int type, int of) {
        int end = 9 + classes.size();
        if (type < 1 || of < 1 || type >= end || of >= end) {
            return false;
        }
        if (type == of || type == 1 && of == 2 || of == 8 && type > 3) {
            return true;
        }
        return type >= 9 && of >= 9 && order(classes.get(type - 9)).contains(classes.get(of - 9));
    }

    public int function(int f, int what) {
        if (f < 0 || f >= functions.size() || what < 0 || what > 5) {
            return -1;
        }
        ModelTexts.Function one = functions.get(f);
        int first = 0;
        int own = 0;
        for (Site site : sites) {
            first += site.function < f ? 1 : 0;
            own += site.function == f ? 1 : 0;
        }
        return new int[] {one.unit, one.parameters, one.variables.size(), one.code.size(), first, own}[what];
    }

    public int code(int f, int i, int what) {
        boolean none = f < 0 || f >= functions.size() || i < 0 || i >= functions.get(f).code.size() || what < 0 || what > 2;
        return none ? -1 : functions.get(f).code.get(i)[what];
    }

    public int site(int s, int what) {
        if (s < 0 || s >= sites.size() || what < 0 || what > 10) {
            return -1;
        }
        Site one = sites.get(s);
        return new int[] {one.kind, one.name == null ? -1 : names.indexOf(one.name), one.es, one.function, one.instruction, one.descriptor,
                one.links, one.hits, one.pruned, one.entries.size(),
            one.isMegamorphic ? 1 : 0}[what];
    }

    public int entry(int s, int k, int what) {
        if (s < 0 || s >= sites.size() || k < 0 || k >= sites.get(s).entries.size() || what < 0 || what > 5) {
            return -1;
        }
        Entry one = sites.get(s).entries.get(k);
        return new int[] {one.linker, one.guardNumber, one.holder == null ? -1 : one.holder.number, one.member == null ? one.which
                : one.member.number, one.comesTo == null ? -1 : one.comesTo.number,
            one.isStale() ? 1 : 0}[what];
    }

    public int name(int n, int i) {
        return n < 0 || n >= names.size() || i < 0 || i >= names.get(n).length() ? -1 : names.get(n).charAt(i);
    }

    public int task(int t, int what) {
        if (t < 0 || t > 1 || what < 0 || what > 4) {
            return -1;
        }
        Task one = tasks[t];
        Call last = one.calls.isEmpty() ? null : one.calls.get(one.calls.size() - 1);
        return new int[] {one.state, one.calls.size(), one.pile.size(), last == null ? -1 : last.function.number, last == null ? -1
                : last.next}[what];
    }

    private static long told(Object value, int what) {
        int kind = value == null ? 0 : value instanceof Boolean ? 1 : value instanceof Long ? 2 : value instanceof String ? 3
                : value instanceof Thing ? 4 + ((Thing) value).sort : 8;
        if (what == 0) {
            return kind;
        }
        switch (kind) {
            case 0:
                return 0;
            case 1:
                return (Boolean) value ? 1 : 0;
            case 2:
                return (Long) value;
            case 3:
                return ((String) value).length();
            case 8:
                return ((ModelTexts.HostClass) value).number;
            default:
                return ((Thing) value).number;
        }
    }

    public long result(int t, int what) {
        if (t < 0 || t > 1 || what < 0 || what > 1) {
            throw new IndexOutOfBoundsException();
        }
        if (tasks[t].state != 2 && tasks[t].state != 3) {
            throw new IllegalStateException();
        }
        return told(tasks[t].end, what);
    }

    public int sign(int t, int i) {
        if (t < 0 || t > 1 || tasks[t].state != 2 && tasks[t].state != 3 || !(tasks[t].end instanceof String)) {
            return -1;
        }
        String text = (String) tasks[t].end;
        return i < 0 || i >= text.length() ? -1 : text.charAt(i);
    }

    public long global(int what) {
        String name = taken();
        if (what < 0 || what > 1) {
            throw new IndexOutOfBoundsException();
        }
        if (!globals.containsKey(name)) {
            throw new NoSuchElementException();
        }
        return told(globals.get(name), what);
    }

    public int thing(int k, int what) {
        if (k < 0 || k >= things.size() || what < 0 || what > 5) {
            return -1;
        }
        Thing one = things.get(k);
        Thing proto = one.shape == null ? null : one.shape.proto;
        return new int[] {one.sort, one.shape == null ? -1 : one.shape.number, proto == null ? -1 : proto.number, one.sort == 3
                ? one.of.number : one.values.size(), one.epoch, one.sort == 1 ? one.function.number : -1}[what];
    }

    public long property(int k, int i, int what) {
        if (k < 0 || k >= things.size() || what < 0 || what > 2 || i < 0 || i >= things.get(k).values.size()) {
            throw new IndexOutOfBoundsException();
        }
        Thing one = things.get(k);
        return what < 2 ? told(one.values.get(i), what) : one.shape == null ? -1 : names.indexOf(one.shape.names.get(i));
    }

    public int shape(int k, int what) {
        if (k < 0 || k >= shapes.size() || what < 0) {
            return -1;
        }
        Shape one = shapes.get(k);
        if (what < 2) {
            return what == 1 ? one.names.size() : one.proto == null ? -1 : one.proto.number;
        }
        return what - 2 < one.names.size() ? names.indexOf(one.names.get(what - 2)) : -1;
    }

    public int output(int i) {
        return i < 0 || i >= output.length() ? -1 : output.charAt(i);
    }

    public int trace(int i) {
        return i < 0 || i >= trace.size() ? -1 : trace.get(i);
    }

    public int count(int what) {
        int[] all = {tape.length(), classes.size(), members.size(), units.size(), functions.size(), instructionCount(), sites.size(),
                descriptors.size(), names.size(), texts.size(), things.size(), calls, shapes.size(),
            choices.size(), workedOut, output.length(), trace.size(), 0, -1, -1, asked[0], asked[1], asked[2], asked[3]};
        return what < 0 || what >= all.length ? -1 : all[what];
    }

    // Memory.

    private static void check(boolean room) {
        if (!room) {
            throw new NoRoom();
        }
    }

    private Shape shapeOf(Thing proto, List<String> some) {
        return shapesBy.get(Arrays.asList(proto, some));
    }

    private Shape addShape(Thing proto, List<String> some) {
        Shape shape = new Shape();
        shape.number = shapes.size();
        shape.proto = proto;
        shape.names = new ArrayList<>(some);
        shapes.add(shape);
        shapesBy.put(Arrays.asList(proto, shape.names), shape);
        if (proto != null && proto.epoch < 0) {
            proto.epoch = 0;
        }
        return shape;
    }

    /** The shape of a prototype and names, made, and those on the way to it, if there is room for all that are wanted. */
    private Shape reach(Thing proto, List<String> some) {
        List<List<String>> wanted = new ArrayList<>();
        for (int i = 0; i <= some.size(); i++) {
            if (shapeOf(proto, some.subList(0, i)) == null) {
                wanted.add(some.subList(0, i));
            }
        }
        check(madeShapes + wanted.size() <= 4000);
        for (List<String> one : wanted) {
            madeShapes++;
            addShape(proto, one);
        }
        return shapeOf(proto, some);
    }

    private Thing make(int sort) {
        Thing thing = new Thing();
        thing.sort = sort;
        thing.number = things.size();
        things.add(thing);
        made++;
        return thing;
    }

    private Thing makeObject(Thing proto, int more) {
        check(made + 1 + more <= 8000);
        Shape shape = reach(proto, List.of());
        Thing thing = make(0);
        thing.shape = shape;
        return thing;
    }

    private String makeText(String text) {
        check(madeTexts + 1 <= 12000 && bytes + text.length() <= 200000);
        madeTexts++;
        bytes += text.length();
        return text;
    }

    private static void changed(Thing thing) {
        thing.epoch += thing.epoch < 0 ? 0 : 1;
    }

    // Tasks.

    public boolean start(int t, int u) {
        if (t < 0 || t > 1 || u < 0 || u >= units.size() || tasks[t].state == 1 || made == 8000) {
            return false;
        }
        made++;
        calls++;
        tasks[t] = new Task();
        tasks[t].state = 1;
        Call call = new Call();
        call.function = functions.get(units.get(u));
        call.scope = new Scope();
        tasks[t].calls.add(call);
        return true;
    }

    public int steps(int t, int n) {
        if (t < 0 || t > 1 || n < 1 || n > 1000) {
            throw new IllegalArgumentException();
        }
        if (tasks[t].state != 1) {
            throw new IllegalStateException();
        }
        int done = 0;
        while (done < n && tasks[t].state == 1) {
            try {
                step(tasks[t]);
                done++;
            } catch (NoRoom end) {
                tasks[t].state = 4;
            }
        }
        return done;
    }

    private void step(Task task) {
        Call call = task.calls.get(task.calls.size() - 1);
        try {
            perform(task, call, call.function.code.get(call.next));
        } catch (Thrown thrown) {
            raise(task, thrown.value);
        }
    }

    private void raise(Task task, Object value) {
        for (int c = task.calls.size() - 1; c >= 0; c--) {
            Call call = task.calls.get(c);
            if (!call.tries.isEmpty()) {
                int[] where = call.tries.remove(call.tries.size() - 1);
                call.next = where[0];
                while (task.calls.size() > c + 1) {
                    task.calls.remove(c + 1);
                }
                while (task.pile.size() > where[1]) {
                    task.pile.remove(where[1]);
                }
                task.pile.add(value);
                return;
            }
        }
        end(task, 3, value);
    }

    private static void end(Task task, int state, Object value) {
        task.state = state;
        task.end = value;
        task.calls.clear();
        task.pile.clear();
    }

    private static Thrown error(int number) {
        return new Thrown((long) number);
    }

    private static void push(Task task, Object value) {
        if (task.pile.size() == 2000) {
            throw error(11);
        }
        task.pile.add(value);
    }

    private static Object top(Task task, int below) {
        return task.pile.get(task.pile.size() - 1 - below);
    }

    /** Some values go, another one comes, and the next instruction's turn is. */
    private static void give(Task task, int taken, Object value) {
        for (int i = 0; i < taken; i++) {
            task.pile.remove(task.pile.size() - 1);
        }
        push(task, value);
        task.calls.get(task.calls.size() - 1).next++;
    }

    private static boolean isNot(Object value) {
        return value == null || value.equals(false);
    }

    private static Scope out(Call call, int far) {
        Scope scope = call.scope;
        for (int i = 0; i < far; i++) {
            scope = scope.around;
        }
        return scope;
    }

    private void perform(Task task, Call call, int[] code) {
        int a = code[1];
        int b = code[2];
        boolean pushes = List.of(0, 1, 3, 6, 24, 26, 33).contains(code[0]) || code[0] == 25 && a == 0;
        if (pushes && task.pile.size() == 2000) {
            throw error(11);
        }
        switch (code[0]) {
            case 0:
                give(task, 0, a == 0 ? null : a == 1 ? (Object) false : a == 2 ? (Object) true : a == 3 ? (Object) (long) b : texts.get(b));
                break;
            case 1:
                give(task, 0, out(call, a).values[b]);
                break;
            case 2:
                out(call, a).values[b] = top(task, 0);
                call.next++;
                break;
            case 3:
                if (!globals.containsKey(names.get(a))) {
                    throw error(10);
                }
                give(task, 0, globals.get(names.get(a)));
                break;
            case 4:
                globals.put(names.get(a), top(task, 0));
                call.next++;
                break;
            case 5:
                task.pile.remove(task.pile.size() - 1);
                call.next++;
                break;
            case 6:
                give(task, 0, top(task, 0));
                break;
            case 12:
                if (!(top(task, 0) instanceof Long)) {
                    throw error(1);
                }
                give(task, 1, -(Long) top(task, 0));
                break;
            case 13:
                give(task, 1, isNot(top(task, 0)));
                break;
            case 20:
                call.next = a;
                break;
            case 21:
                call.next = isNot(task.pile.remove(task.pile.size() - 1)) ? a : call.next + 1;
                break;
            case 22:
            case 23:
                if (isNot(top(task, 0)) == (code[0] == 23)) {
                    call.next = a;
                } else {
                    task.pile.remove(task.pile.size() - 1);
                    call.next++;
                }
                break;
            case 27:
                invoke(task, sites.get(a));
                break;
            case 28:
                build(task, a);
                break;
            default:
                performMore(task, call, code);
                break;
        }
    }

    private void performMore(Task task, Call call, int[] code) {
        int a = code[1];
        switch (code[0]) {
            case 24:
                check(made + 1 <= 8000);
                Thing fun = make(1);
                fun.shape = shapes.get(0);
                fun.function = functions.get(a);
                fun.scope = call.scope;
                give(task, 0, fun);
                break;
            case 25:
                check(made + 1 <= 8000 && values + a <= 60000);
                values += a;
                Thing list = make(2);
                list.values.addAll(task.pile.subList(task.pile.size() - a, task.pile.size()));
                give(task, a, list);
                break;
            case 26:
                give(task, 0, makeObject(null, 0));
                break;
            case 29:
                comeBack(task, call);
                break;
            case 30:
                throw new Thrown(top(task, 0));
            case 31:
                call.tries.add(new int[] {a, task.pile.size()});
                call.next++;
                break;
            case 32:
                call.tries.remove(call.tries.size() - 1);
                call.next++;
                break;
            case 33:
                give(task, 0, call.self);
                break;
            default:
                give(task, 2, operate(code[0], top(task, 1), top(task, 0)));
                break;
        }
    }

    private static void comeBack(Task task, Call call) {
        Object value = task.pile.remove(task.pile.size() - 1);
        if (call.ofNew && !(value instanceof Thing && ((Thing) value).sort == 0)) {
            value = call.self;
        }
        task.calls.remove(task.calls.size() - 1);
        if (task.calls.isEmpty()) {
            end(task, 2, value);
        } else {
            task.pile.add(value);
        }
    }

    private static boolean areEqual(Object x, Object y) {
        return x == null || y == null ? x == y : x instanceof Thing ? x == y : x.equals(y);
    }

    private Object operate(int op, Object x, Object y) {
        if (op == 14 || op == 15) {
            return areEqual(x, y) == (op == 14);
        }
        if (x instanceof Long && y instanceof Long) {
            long i = (Long) x;
            long j = (Long) y;
            if ((op == 10 || op == 11) && j == 0) {
                throw error(2);
            }
            switch (op) {
                case 7:
                    return i + j;
                case 8:
                    return i - j;
                case 9:
                    return i * j;
                case 10:
                    return i / j;
                case 11:
                    return i % j;
                default:
                    return isSo(op, Long.compare(i, j));
            }
        }
        if (op >= 16 && x instanceof String && y instanceof String) {
            return isSo(op, ((String) x).compareTo((String) y));
        }
        boolean joins = (x instanceof String || y instanceof String) && told(x, 0) <= 3 && told(y, 0) <= 3;
        if (op != 7 || !joins) {
            throw error(1);
        }
        return makeText(shown(x) + shown(y));
    }

    private static boolean isSo(int op, int order) {
        return op == 16 ? order < 0 : op == 17 ? order <= 0 : op == 18 ? order > 0 : order >= 0;
    }

    private static String shown(Object value) {
        if (value instanceof ModelTexts.HostClass) {
            return ((ModelTexts.HostClass) value).name;
        }
        if (!(value instanceof Thing)) {
            return String.valueOf(value);
        }
        Thing thing = (Thing) value;
        return thing.sort == 0 ? "{}" : thing.sort == 1 ? "fun" : thing.sort == 2 ? "[]" : thing.of.name + "@" + thing.number;
    }

    // Builtins.

    private static boolean holds(Object value) {
        return value instanceof Thing && ((Thing) value).sort < 2;
    }

    private static void need(boolean fine) {
        if (!fine) {
            throw error(12);
        }
    }

    private void build(Task task, int builtin) {
        Object y = top(task, 0);
        Object x = builtin >= 3 && builtin <= 5 ? top(task, 1) : null;
        switch (builtin) {
            case 0:
                check(output.length() + shown(y).length() + 1 <= 65536);
                output.append(shown(y)).append('\n');
                give(task, 1, null);
                break;
            case 1:
                need(y == null || holds(y));
                give(task, 1, makeObject((Thing) y, 0));
                break;
            case 2:
                need(holds(y));
                give(task, 1, ((Thing) y).shape.proto);
                break;
            case 3:
                need(holds(x) && (y == null || holds(y)));
                for (Thing up = (Thing) y; up != null; up = up.shape.proto) {
                    need(up != x);
                }
                Thing turned = (Thing) x;
                turned.shape = reach((Thing) y, turned.shape.names);
                changed(turned);
                give(task, 2, x);
                break;
            case 4:
                need(holds(x) && y instanceof String);
                give(task, 2, drop((Thing) x, (String) y));
                break;
            case 5:
                need(holds(x) && y instanceof String);
                give(task, 2, holder((Thing) x, (String) y) != null);
                break;
            case 6:
                String kind = List.of("null", "bool", y instanceof Long && (Long) y != (int) (long) (Long) y ? "long" : "int", "text",
                        "object", "fun", "list", "host", "class").get((int) told(y, 0));
                give(task, 1, makeText(kind));
                break;
            default:
                ModelTexts.HostClass found = null;
                for (ModelTexts.HostClass one : classes) {
                    found = one.name.equals(y) ? one : found;
                }
                need(found != null);
                give(task, 1, found);
                break;
        }
    }

    private boolean drop(Thing thing, String name) {
        int which = thing.shape.names.indexOf(name);
        if (which < 0) {
            return false;
        }
        List<String> rest = new ArrayList<>(thing.shape.names);
        rest.remove(which);
        thing.shape = reach(thing.shape.proto, rest);
        thing.values.remove(which);
        changed(thing);
        return true;
    }

    private static Thing holder(Thing thing, String name) {
        Thing up = thing;
        while (up != null && !up.shape.names.contains(name)) {
            up = up.shape.proto;
        }
        return up;
    }

    // Hosts.

    private static Object first(int type) {
        return type == 1 || type == 2 ? (Object) 0L : type == 3 ? (Object) false : null;
    }

    private static List<ModelTexts.HostClass> classesUp(ModelTexts.HostClass one) {
        List<ModelTexts.HostClass> all = new ArrayList<>();
        for (ModelTexts.HostClass up = one; up != null; up = up.above) {
            all.add(up);
        }
        return all;
    }

    private static void addInterfaces(ModelTexts.HostClass of, List<ModelTexts.HostClass> all) {
        for (ModelTexts.HostClass one : of.supers) {
            if (one.isInterface && !all.contains(one)) {
                all.add(one);
                addInterfaces(one, all);
            }
        }
    }

    private static List<ModelTexts.HostClass> order(ModelTexts.HostClass one) {
        List<ModelTexts.HostClass> all = classesUp(one);
        for (ModelTexts.HostClass up : classesUp(one)) {
            addInterfaces(up, all);
        }
        return all;
    }

    /** Those of a name that may be meant: none with the types of one that comes ahead. */
    private static List<ModelTexts.Member> meant(ModelTexts.HostClass of, int sort, boolean isStatic, String name, boolean forSet) {
        List<ModelTexts.Member> all = new ArrayList<>();
        for (ModelTexts.HostClass one : sort == 2 ? List.of(of) : order(of)) {
            for (ModelTexts.Member member : one.members) {
                boolean is = member.sort == sort && member.isStatic == isStatic && member.name.equals(name) && (!forSet
                        || member.parameters.size() == 1);
                for (ModelTexts.Member ahead : all) {
                    is = is && !ahead.parameters.equals(member.parameters);
                }
                if (is) {
                    all.add(member);
                }
            }
        }
        return all;
    }

    private static ModelTexts.Member field(ModelTexts.HostClass of, String name, int isStatic) {
        for (ModelTexts.HostClass one : classesUp(of)) {
            for (ModelTexts.Member member : one.members) {
                if (member.sort == 0 && member.name.equals(name) && (isStatic < 0 || member.isStatic == (isStatic == 1))) {
                    return member;
                }
            }
        }
        return null;
    }

    private static List<ModelTexts.Member> fields(ModelTexts.HostClass of) {
        List<ModelTexts.HostClass> up = classesUp(of);
        Collections.reverse(up);
        List<ModelTexts.Member> all = new ArrayList<>();
        for (ModelTexts.HostClass one : up) {
            for (ModelTexts.Member member : one.members) {
                if (member.sort == 0 && !member.isStatic) {
                    all.add(member);
                }
            }
        }
        return all;
    }

    private static int classOf(Object value) {
        switch ((int) told(value, 0)) {
            case 0:
                return 0;
            case 1:
                return 6;
            case 2:
                return (Long) value == (int) (long) (Long) value ? 4 : 5;
            case 3:
                return 7;
            case 7:
                return 9 + ((Thing) value).of.number;
            default:
                return 8;
        }
    }

    private boolean goesTo(int of, int parameter, boolean loosely) {
        if (parameter > 3) {
            return of == 0 || subtype(of, parameter);
        }
        return loosely && (of == 4 && parameter <= 2 || of == 5 && parameter == 2 || of == 6 && parameter == 3);
    }

    private static int parameter(ModelTexts.Member member, int i) {
        return member.parameters.get(Math.min(i, member.parameters.size() - 1));
    }

    private boolean fits(ModelTexts.Member member, int phase, List<Integer> es) {
        int size = member.parameters.size();
        if (member.isVariable != (phase == 3) || (phase == 3 ? es.size() < size - 1 : es.size() != size)) {
            return false;
        }
        for (int i = 0; i < es.size(); i++) {
            if (!goesTo(es.get(i), parameter(member, i), phase > 1)) {
                return false;
            }
        }
        return true;
    }

    private boolean isMoreSpecific(ModelTexts.Member one, ModelTexts.Member other) {
        int size = Math.max(one.parameters.size(), other.parameters.size());
        for (int i = 0; i < size; i++) {
            if (!subtype(parameter(one, i), parameter(other, i))) {
                return false;
            }
        }
        return true;
    }

    private int workOut(List<ModelTexts.Member> all, List<Integer> es) {
        for (int phase = 1; phase <= 3; phase++) {
            List<ModelTexts.Member> fitting = new ArrayList<>();
            for (ModelTexts.Member one : all) {
                if (fits(one, phase, es)) {
                    fitting.add(one);
                }
            }
            List<ModelTexts.Member> most = new ArrayList<>();
            for (ModelTexts.Member one : fitting) {
                boolean is = true;
                for (ModelTexts.Member other : fitting) {
                    is = is && isMoreSpecific(one, other);
                }
                if (is) {
                    most.add(one);
                }
            }
            if (!fitting.isEmpty()) {
                return most.size() == 1 ? most.get(0).number : -8;
            }
        }
        return -9;
    }

    /** The member that is meant, null if there are none of the name. */
    private ModelTexts.Member choose(ModelTexts.HostClass of, int sort, boolean isStatic, String name, boolean forSet, List<Integer> es) {
        List<ModelTexts.Member> all = meant(of, sort, isStatic, name, forSet);
        if (all.isEmpty()) {
            return null;
        }
        List<Object> key = List.of(of.number, sort, isStatic, name, forSet, es);
        Integer chosen = choices.get(key);
        if (chosen == null) {
            workedOut++;
            chosen = workOut(all, es);
            if (keptInAll < 2000) {
                keptInAll++;
                choices.put(key, chosen);
            }
        }
        if (chosen < 0) {
            throw error(-chosen);
        }
        return members.get(chosen);
    }

    private static String capital(String name) {
        char c = name.charAt(0);
        return c >= 'a' && c <= 'z' ? (char) (c - 32) + name.substring(1) : name;
    }

    private static ModelTexts.Member plain(ModelTexts.HostClass of, boolean isStatic, String name) {
        for (ModelTexts.Member one : meant(of, 1, isStatic, name, false)) {
            if (one.parameters.isEmpty()) {
                return one;
            }
        }
        return null;
    }

    /** The field that a method gives or sets, or null. */
    private static ModelTexts.Member accessed(ModelTexts.Member m) {
        String name = m.name;
        boolean gets = m.parameters.isEmpty() && (name.startsWith("get") || name.startsWith("is") && m.type == 3);
        boolean sets = m.parameters.size() == 1 && !m.isVariable && m.type == 0 && name.startsWith("set");
        if (m.sort != 1 || !gets && !sets) {
            return null;
        }
        String rest = name.substring(name.startsWith("is") && !name.startsWith("get") && !sets ? 2 : 3);
        if (rest.isEmpty() || rest.charAt(0) < 'A' || rest.charAt(0) > 'Z') {
            return null;
        }
        ModelTexts.Member field = field(m.of, (char) (rest.charAt(0) + 32) + rest.substring(1), -1);
        boolean is = field != null && field.isStatic == m.isStatic && field.type == (sets ? m.parameters.get(0) : m.type);
        return is ? field : null;
    }

    // Sites.

    private void invoke(Task task, Site site) {
        int behind = site.kind == 1 || site.kind == 2 ? 1 : site.kind == 3 ? 2 : site.es;
        int base = task.pile.size() - 1 - behind;
        Object goal = task.pile.get(base);
        List<Object> es = new ArrayList<>(task.pile.subList(base + 1, task.pile.size()));
        boolean ofElement = site.kind == 2 || site.kind == 3;
        String name = site.name;
        if (ofElement) {
            name = es.get(0) instanceof String && !((String) es.get(0)).isEmpty() && ((String) es.get(0)).length() <= 60
                    ? (String) es.get(0) : null;
            if (name != null && holds(goal) && !names.contains(name)) {
                check(names.size() < 4000);
                names.add(name);
            }
        }
        List<Integer> of = new ArrayList<>();
        for (Object one : ofElement ? List.of() : es) {
            of.add(classOf(one));
        }
        for (int i = 0; i < site.entries.size(); i++) {
            Entry entry = site.entries.get(i);
            if (entry.isStale()) {
                site.entries.remove(i);
                site.pruned++;
                i--;
            } else if (holds(site, entry, goal, name, of)) {
                site.hits++;
                act(task, site, entry, base, goal, es);
                return;
            }
        }
        Entry found = look(site, goal, name, of);
        if (!site.isMegamorphic) {
            site.links++;
            site.entries.add(0, found);
            if (site.entries.size() > 4) {
                site.entries.remove(4);
            }
            if (site.links == 9) {
                site.isMegamorphic = true;
                site.entries.clear();
            }
        }
        act(task, site, found, base, goal, es);
    }

    private static boolean holds(Site site, Entry entry, Object goal, String name, List<Integer> of) {
        boolean is;
        switch (entry.linker) {
            case 0:
                Object asked = !holds(goal) ? null : site.kind == 4 || site.kind == 6 ? ((Thing) goal).function : ((Thing) goal).shape;
                is = asked != null && asked == entry.guard && (entry.text == null || entry.text.equals(name));
                break;
            case 1:
                is = goal instanceof Thing && ((Thing) goal).of == entry.guard;
                break;
            case 2:
                is = goal == entry.guard;
                break;
            default:
                is = entry.guardNumber == (goal instanceof String ? 1 : goal instanceof Thing && ((Thing) goal).sort == 2 ? 0 : -1);
                break;
        }
        return is && (entry.es == null || entry.es.equals(of));
    }

    private Entry look(Site site, Object goal, String name, List<Integer> of) {
        Entry found = new Entry();
        found.linker = holds(goal) ? 0 : goal instanceof Thing && ((Thing) goal).sort == 3 ? 1 : goal instanceof ModelTexts.HostClass ? 2
                : goal instanceof Thing || goal instanceof String ? 3 : -1;
        if (found.linker < 0) {
            throw error(3);
        }
        asked[found.linker]++;
        if (found.linker == 0) {
            lookAtThing(site, found, (Thing) goal, name);
        } else if (found.linker == 3) {
            lookAtRow(site, found, goal);
        } else {
            lookAtHost(site, found, found.linker == 1 ? ((Thing) goal).of : (ModelTexts.HostClass) goal, of);
        }
        return found;
    }

    private void lookAtThing(Site site, Entry found, Thing goal, String name) {
        if (site.kind == 4 || site.kind == 6) {
            if (goal.sort != 1) {
                throw error(5);
            }
            found.guard = goal.function;
            found.guardNumber = goal.function.number;
            return;
        }
        if (name == null) {
            throw error(6);
        }
        found.guard = goal.shape;
        found.guardNumber = goal.shape.number;
        found.text = site.name == null ? name : null;
        if (site.kind == 1 || site.kind == 3) {
            found.which = goal.shape.names.indexOf(name);
            if (found.which < 0) {
                List<String> more = new ArrayList<>(goal.shape.names);
                more.add(name);
                found.comesTo = reach(goal.shape.proto, more);
            }
            return;
        }
        Thing holder = holder(goal, name);
        found.holder = holder == goal ? null : holder;
        found.which = holder == null ? -1 : holder.shape.names.indexOf(name);
        if (holder != goal) {
            for (Thing up = goal.shape.proto; up != null; up = up == holder ? null : up.shape.proto) {
                found.epochs.put(up, up.epoch);
            }
        }
    }

    private static void lookAtRow(Site site, Entry found, Object goal) {
        boolean isText = goal instanceof String;
        found.guardNumber = isText ? 1 : 0;
        String asked = site.name + " " + site.es;
        switch (site.kind) {
            case 0:
                if (!site.name.equals("size")) {
                    throw error(4);
                }
                break;
            case 5:
                if (!(isText ? List.of("sub 2") : List.of("push 1", "pop 0")).contains(asked)) {
                    throw error(4);
                }
                break;
            case 2:
                break;
            default:
                if (site.kind != 3 || isText) {
                    throw error(5);
                }
                break;
        }
    }

    private void lookAtHost(Site site, Entry found, ModelTexts.HostClass of, List<Integer> es) {
        boolean isStatic = found.linker == 2;
        found.guard = of;
        found.guardNumber = of.number;
        switch (site.kind) {
            case 0:
                found.member = plain(of, isStatic, "get" + capital(site.name));
                if (found.member == null) {
                    ModelTexts.Member is = plain(of, isStatic, "is" + capital(site.name));
                    found.member = is != null && is.type == 3 ? is : null;
                }
                break;
            case 1:
                found.member = choose(of, 1, isStatic, "set" + capital(site.name), true, es);
                found.es = found.member == null ? null : es;
                break;
            case 5:
                found.member = choose(of, 1, isStatic, site.name, false, es);
                found.es = es;
                break;
            default:
                if (site.kind != 6 || !isStatic) {
                    throw error(5);
                }
                found.member = choose(of, 2, false, "new", false, es);
                found.es = es;
                break;
        }
        if (found.member == null && site.kind < 2) {
            found.member = field(of, site.name, isStatic ? 1 : 0);
        }
        if (found.member == null) {
            throw error(4);
        }
    }

    // What an entry says is done.

    /** Ends a site's instruction: its values go, another one comes. */
    private static void answer(Task task, int base, Object value) {
        give(task, task.pile.size() - base, value);
    }

    private void act(Task task, Site site, Entry entry, int base, Object goal, List<Object> es) {
        if (entry.linker == 3) {
            actOnRow(task, site, base, goal, es);
        } else if (entry.linker > 0) {
            actOnHost(task, site, entry, base, goal, es);
        } else if (site.kind == 4) {
            enter(task, base, (Thing) goal, null, false, es);
        } else if (site.kind == 6) {
            construct(task, base, (Thing) goal, es);
        } else if (site.kind == 1 || site.kind == 3) {
            setProperty(task, entry, base, (Thing) goal, es.get(es.size() - 1));
        } else {
            Object value = entry.which < 0 ? null : (entry.holder == null ? (Thing) goal : entry.holder).values.get(entry.which);
            if (site.kind != 5) {
                answer(task, base, value);
            } else if (value instanceof Thing && ((Thing) value).sort == 1) {
                enter(task, base, (Thing) value, goal, false, es);
            } else {
                throw error(value == null ? 4 : 5);
            }
        }
    }

    private void setProperty(Task task, Entry entry, int base, Thing goal, Object value) {
        if (entry.which >= 0) {
            goal.values.set(entry.which, value);
        } else {
            check(goal.values.size() < 64 && values < 60000);
            values++;
            goal.values.add(value);
            goal.shape = entry.comesTo;
            changed(goal);
        }
        answer(task, base, value);
    }

    private void checkCall(Task task, Thing fun, int more) {
        if (task.calls.size() == 200) {
            throw error(11);
        }
        check(made + 1 + more <= 8000 && values + fun.function.variables.size() <= 60000);
    }

    private void enter(Task task, int base, Thing fun, Object self, boolean ofNew, List<Object> es) {
        checkCall(task, fun, 0);
        Call call = new Call();
        call.function = fun.function;
        call.self = self;
        call.ofNew = ofNew;
        call.scope = new Scope();
        call.scope.around = fun.scope;
        call.scope.values = new Object[fun.function.variables.size()];
        for (int i = 0; i < Math.min(es.size(), fun.function.parameters); i++) {
            call.scope.values[i] = es.get(i);
        }
        made++;
        calls++;
        values += call.scope.values.length;
        task.calls.get(task.calls.size() - 1).next++;
        while (task.pile.size() > base) {
            task.pile.remove(base);
        }
        task.calls.add(call);
    }

    private void construct(Task task, int base, Thing fun, List<Object> es) {
        checkCall(task, fun, 1);
        Thing holder = holder(fun, "proto");
        Object proto = holder == null ? null : holder.values.get(holder.shape.names.indexOf("proto"));
        Thing object = makeObject(holds(proto) ? (Thing) proto : null, 1);
        enter(task, base, fun, object, true, es);
    }

    private static int index(Object value, int from, int to) {
        if (!(value instanceof Long) || (Long) value < from || (Long) value > to) {
            throw error(6);
        }
        return (int) (long) (Long) value;
    }

    private void actOnRow(Task task, Site site, int base, Object goal, List<Object> es) {
        if (goal instanceof String) {
            String text = (String) goal;
            if (site.kind == 0) {
                answer(task, base, (long) text.length());
            } else if (site.kind == 2) {
                int i = index(es.get(0), 0, text.length() - 1);
                answer(task, base, makeText(text.substring(i, i + 1)));
            } else {
                int i = index(es.get(0), 0, text.length());
                answer(task, base, makeText(text.substring(i, index(es.get(1), i, text.length()))));
            }
            return;
        }
        List<Object> list = ((Thing) goal).values;
        if (site.kind == 0) {
            answer(task, base, (long) list.size());
        } else if (site.kind == 2) {
            answer(task, base, list.get(index(es.get(0), 0, list.size() - 1)));
        } else if (site.kind == 5 && es.isEmpty()) {
            answer(task, base, list.isEmpty() ? null : list.remove(list.size() - 1));
        } else {
            int i = site.kind == 5 ? list.size() : index(es.get(0), 0, list.size());
            Object value = es.get(es.size() - 1);
            if (i < list.size()) {
                list.set(i, value);
            } else {
                check(values < 60000);
                values++;
                list.add(value);
            }
            answer(task, base, site.kind == 5 ? (Object) (long) list.size() : value);
        }
    }

    private Object get(ModelTexts.Member field, Object goal) {
        return field.isStatic ? statics.get(field) : ((Thing) goal).values.get(fields(((Thing) goal).of).indexOf(field));
    }

    private void set(ModelTexts.Member field, Object goal, Object value) {
        if (field.isStatic) {
            statics.put(field, value);
        } else {
            ((Thing) goal).values.set(fields(((Thing) goal).of).indexOf(field), value);
        }
    }

    private void actOnHost(Task task, Site site, Entry entry, int base, Object goal, List<Object> es) {
        ModelTexts.Member member = entry.member;
        if (member.sort != 0) {
            Object value = does(member, goal, es);
            answer(task, base, site.kind == 1 ? es.get(0) : value);
        } else if (site.kind == 0) {
            answer(task, base, get(member, goal));
        } else {
            if (!goesTo(classOf(es.get(0)), member.type, true)) {
                throw error(7);
            }
            set(member, goal, es.get(0));
            answer(task, base, es.get(0));
        }
    }

    private Object does(ModelTexts.Member member, Object goal, List<Object> es) {
        check(trace.size() + 2 <= 100000);
        List<ModelTexts.Member> all = fields(member.of);
        ModelTexts.Member field = accessed(member);
        Object value = null;
        if (member.sort == 2) {
            check(made + 1 <= 8000 && values + all.size() <= 60000);
        } else if (field == null && member.type == 7) {
            value = makeText(member.name);
        }
        trace.add(member.number);
        trace.add(es.size());
        if (member.sort == 2) {
            return instance(member, all, es);
        }
        if (field != null) {
            if (!es.isEmpty()) {
                set(field, goal, es.get(0));
                return null;
            }
            return get(field, goal);
        }
        return member.type == 7 ? value : other(member, goal, es);
    }

    private Thing instance(ModelTexts.Member member, List<ModelTexts.Member> all, List<Object> es) {
        values += all.size();
        Thing thing = make(3);
        thing.of = member.of;
        boolean[] isSet = new boolean[all.size()];
        for (ModelTexts.Member one : all) {
            thing.values.add(first(one.type));
        }
        for (int i = 0; i < es.size(); i++) {
            for (int f = 0; f < isSet.length; f++) {
                if (!isSet[f] && all.get(f).type == parameter(member, i)) {
                    isSet[f] = true;
                    thing.values.set(f, es.get(i));
                    break;
                }
            }
        }
        return thing;
    }

    /** What a method gives that is none of a field, and of no Text. */
    private Object other(ModelTexts.Member member, Object goal, List<Object> es) {
        if (member.type == 0) {
            return null;
        }
        if (member.type >= 8) {
            List<Object> some = new ArrayList<>();
            if (!member.isStatic) {
                some.add(goal);
            }
            some.addAll(es);
            for (Object one : some) {
                boolean isInstance = one instanceof Thing && ((Thing) one).sort == 3;
                if (one != null && (member.type == 8 || isInstance && subtype(classOf(one), member.type))) {
                    return one;
                }
            }
            return null;
        }
        long sum = member.number;
        for (Object one : es) {
            sum += one instanceof Long ? (Long) one : 0;
        }
        boolean odd = sum % 2 != 0;
        return member.type == 3 || member.type == 6 ? (Object) odd : member.type == 1 || member.type == 4 ? (Object) (long) (int) sum
                : (Object) sum;
    }
}
