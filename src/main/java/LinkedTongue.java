import java.util.Arrays;
import java.util.NoSuchElementException;

/**
 * A small language with prototypes, and host classes beside it, whose reads, writes, calls and
 * news are sites that keep a short chain of guarded entries.
 *
 * <p>Values go about as a kind and 64 bits, never as objects. What there are many of (things,
 * calls, shapes, sites, entries, a host's members) lies in tables that stand by columns: a method
 * makes no object, but an exception; the columns that have no room any more are doubled.
 */
public final class LinkedTongue {
    public static final int NONE = -1;

    private static final int TAPE_MOST = 65536;
    private static final int TASKS = 2;
    private static final int UNITS_MOST = 16;
    private static final int FUNCTIONS_MOST = 400;
    private static final int NAMES_MOST = 4000;
    private static final int TEXTS_MOST = 4000;
    private static final int VARIABLES_MOST = 60;
    private static final int INSTRUCTIONS_MOST = 20000;
    private static final int SITES_MOST = 4000;
    private static final int DEPTH_MOST = 50;
    private static final int ES_MOST = 8;
    private static final int STEPS_MOST = 1000;

    private static final int NAME_SIGNS = 30;
    private static final int DIGITS_MOST = 10;
    private static final int NUMBER_MOST = 2147483647;
    private static final int TEXT_SIGNS = 60;

    private static final int CLASSES_MOST = 60;
    private static final int MEMBERS_MOST = 400;
    private static final int PARAMETERS_MOST = 8;

    private static final int CALLS_MOST = 200;
    private static final int PILE_MOST = 2000;
    private static final int PROPERTIES_MOST = 64;
    private static final int OUTPUT_MOST = 65536;
    private static final int TRACE_MOST = 100000;
    private static final int ENTRIES_MOST = 4;
    private static final int LINKS_MOST = 9;

    // The kinds of values, as result() tells them.
    private static final int K_UNSET = -1;
    private static final int K_NULL = 0;
    private static final int K_BOOL = 1;
    private static final int K_NUMBER = 2;
    private static final int K_TEXT = 3;
    private static final int K_OBJECT = 4;
    private static final int K_FUN = 5;
    private static final int K_LIST = 6;
    private static final int K_INSTANCE = 7;
    private static final int K_CLASS = 8;

    // The types of a host, as member() tells them.
    private static final int VOID = 0;
    private static final int INT = 1;
    private static final int LONG = 2;
    private static final int BOOL = 3;
    private static final int BIG_INT = 4;
    private static final int BIG_LONG = 5;
    private static final int BIG_BOOL = 6;
    private static final int TEXT = 7;
    private static final int ANY = 8;
    private static final int CLASS_TYPES = 9;

    // Columns of a host's class, the first five as type() tells them.
    private static final int C_INTERFACE = 0;
    private static final int C_ABOVE = 1;
    private static final int C_SUPERS = 2;
    private static final int C_MEMBERS = 3;
    private static final int C_FIRST = 4;
    private static final int C_WORD = 5;
    /** How many stand in its order, itself among them. */
    private static final int C_ORDER = 6;
    /** How many fields its instances have, and the last one of these. */
    private static final int C_FIELDS = 7;
    private static final int C_LAST = 8;
    private static final int C_WIDTH = 9;

    // Columns of a host's member, up to the parameters as member() tells them.
    private static final int M_CLASS = 0;
    private static final int M_SORT = 1;
    private static final int M_STATIC = 2;
    private static final int M_TYPE = 3;
    private static final int M_COUNT = 4;
    private static final int M_VARIABLE = 5;
    private static final int M_FIRST = 6;
    private static final int M_WORD = 14;
    /** A field's place in its row; of a method the field that it gives or sets. */
    private static final int M_FIELD = 15;
    /** The field ahead of a field in its row. */
    private static final int M_BEFORE = 16;
    private static final int M_WIDTH = 17;

    private static final int FIELD = 0;
    private static final int METHOD_SORT = 1;
    private static final int CONSTRUCTOR = 2;

    // Which members a choice is among.
    private static final int OTHERS = 0;
    private static final int STATICS = 1;
    private static final int CONSTRUCTORS = 2;

    // Columns of a function, the first six as function() tells them.
    private static final int F_UNIT = 0;
    private static final int F_PARAMETERS = 1;
    private static final int F_VARIABLES = 2;
    private static final int F_INSTRUCTIONS = 3;
    private static final int F_SITE = 4;
    private static final int F_SITES = 5;
    private static final int F_FIRST = 6;
    /** The function around it, and the latest of its variables, while it is compiled. */
    private static final int F_AROUND = 7;
    private static final int F_LATEST = 8;
    private static final int F_WIDTH = 9;

    // Columns of a variable, while its function is compiled.
    private static final int V_NAME = 0;
    private static final int V_BEFORE = 1;
    private static final int V_WIDTH = 2;

    // Columns of a site, the first eleven as site() tells them.
    private static final int S_KIND = 0;
    private static final int S_NAME = 1;
    private static final int S_ES = 2;
    private static final int S_FUNCTION = 3;
    private static final int S_INSTRUCTION = 4;
    private static final int S_DESCRIPTOR = 5;
    private static final int S_LINKS = 6;
    private static final int S_HITS = 7;
    private static final int S_PRUNED = 8;
    private static final int S_ENTRIES = 9;
    private static final int S_MEGAMORPHIC = 10;
    private static final int S_FIRST = 11;
    private static final int S_WIDTH = 12;

    // Columns of an entry, what its site has linked; the first five as entry() tells them.
    private static final int E_LINKER = 0;
    private static final int E_GUARD = 1;
    private static final int E_HOLDER = 2;
    private static final int E_WHICH = 3;
    private static final int E_SHAPE = 4;
    /** The name, of an element's text, too. */
    private static final int E_NAME = 5;
    /** How many changes there were when prototypes were gone through; NONE if none were. */
    private static final int E_SINCE = 6;
    /** The classes of all ES that the guard asks for too, in two halves; NONE if it does not. */
    private static final int E_ES_LOW = 7;
    private static final int E_ES_HIGH = 8;
    private static final int E_NEXT = 9;
    private static final int E_WIDTH = 10;

    // The kinds of sites.
    private static final int GET = 0;
    private static final int SET = 1;
    private static final int GET_ELEMENT = 2;
    private static final int SET_ELEMENT = 3;
    private static final int CALL = 4;
    private static final int METHOD = 5;
    private static final int NEW = 6;

    // Columns of a thing.
    private static final int T_KIND = 0;
    private static final int T_SHAPE = 1;
    /** The function of a fun, the class of an instance. */
    private static final int T_OF = 2;
    private static final int T_EPOCH = 3;
    /** Which one of all changes of watched things was its latest. */
    private static final int T_CHANGED = 4;
    /** The shape without names of which it is the prototype. */
    private static final int T_BARE = 5;
    /** Where its cells begin, how many are in use, how many there are. */
    private static final int T_START = 6;
    private static final int T_SIZE = 7;
    private static final int T_ROOM = 8;
    /** Of a fun the call that it was made in. */
    private static final int T_AROUND = 9;
    private static final int T_WIDTH = 10;

    // Columns of a call: where the cells of its VARIABLES begin, and the call around it.
    private static final int A_START = 0;
    private static final int A_AROUND = 1;
    private static final int A_WIDTH = 2;

    // Columns of a shape.
    private static final int H_PROTO = 0;
    private static final int H_SIZE = 1;
    private static final int H_NAME = 2;
    private static final int H_BEFORE = 3;
    private static final int H_NEXT = 4;
    private static final int H_WIDTH = 5;

    // What the whole life uses up, and how much there is of each.
    private static final int L_MADE = 0;
    private static final int L_VALUES = 1;
    private static final int L_TEXTS = 2;
    private static final int L_BYTES = 3;
    private static final int L_SHAPES = 4;
    private static final int L_CHOICES = 5;
    private static final int[] LIFE_MOST = {8000, 60000, 12000, 200000, 4000, 2000};

    // The instructions.
    private static final int PUSH = 0;
    private static final int LOAD = 1;
    private static final int STORE = 2;
    private static final int GLOAD = 3;
    private static final int GSTORE = 4;
    private static final int POP = 5;
    private static final int DUP = 6;
    private static final int ADD = 7;
    private static final int SUBTRACT = 8;
    private static final int MULTIPLY = 9;
    private static final int DIVIDE = 10;
    private static final int REMAINDER = 11;
    private static final int MINUS = 12;
    private static final int NOT = 13;
    private static final int EQUAL = 14;
    private static final int UNEQUAL = 15;
    private static final int LESS = 16;
    private static final int AT_MOST = 17;
    private static final int MORE = 18;
    private static final int AT_LEAST = 19;
    private static final int JUMP = 20;
    private static final int JUMP_IF_NOT = 21;
    private static final int OR = 22;
    private static final int AND = 23;
    private static final int FUN = 24;
    private static final int LIST = 25;
    private static final int OBJECT = 26;
    private static final int SITE = 27;
    private static final int BUILTIN = 28;
    private static final int RETURN = 29;
    private static final int THROW = 30;
    private static final int TRY = 31;
    private static final int END = 32;
    private static final int THIS = 33;

    private static final int PUSH_NUMBER = 3;
    private static final int PUSH_TEXT = 4;

    // Tokens; the single signs stand in the order of SIGNS, the keywords in that of WORDS.
    private static final int T_END = 0;
    private static final int T_BAD = 1;
    private static final int T_NUMBER = 2;
    private static final int T_TEXT = 3;
    /** A text for which there is no number left. */
    private static final int T_TEXT_FULL = 4;
    private static final int T_NAME = 5;
    /** A name for which there is no number left. */
    private static final int T_NAME_FULL = 6;
    private static final int T_SIGN = 10;
    private static final int T_OPEN = 10;
    private static final int T_CLOSE = 11;
    private static final int T_BRACE = 12;
    private static final int T_BRACE_END = 13;
    private static final int T_BRACKET = 14;
    private static final int T_BRACKET_END = 15;
    private static final int T_COMMA = 16;
    private static final int T_SEMICOLON = 17;
    private static final int T_DOT = 18;
    private static final int T_COLON = 19;
    private static final int T_ASSIGN = 20;
    private static final int T_LESS = 21;
    private static final int T_MORE = 22;
    private static final int T_PLUS = 23;
    private static final int T_MINUS = 24;
    private static final int T_TIMES = 25;
    private static final int T_OVER = 26;
    private static final int T_REST = 27;
    private static final int T_NOT = 28;
    private static final int T_EQUAL = 29;
    private static final int T_UNEQUAL = 30;
    private static final int T_AT_MOST = 31;
    private static final int T_AT_LEAST = 32;
    private static final int T_AND = 33;
    private static final int T_OR = 34;
    private static final int T_DOTS = 35;
    private static final int T_KEY = 40;
    private static final int T_VAR = 40;
    private static final int T_FUN = 41;
    private static final int T_IF = 42;
    private static final int T_ELSE = 43;
    private static final int T_WHILE = 44;
    private static final int T_RETURN = 45;
    private static final int T_THROW = 46;
    private static final int T_TRY = 47;
    private static final int T_CATCH = 48;
    private static final int T_NEW = 49;
    private static final int T_THIS = 50;
    private static final int T_NULL = 51;
    private static final int T_TRUE = 52;
    private static final int T_FALSE = 53;
    private static final int T_BUILTIN = 54;
    private static final int T_KEY_END = 62;

    private static final String SIGNS = "(){}[],;.:=<>+-*/%!";

    /** The keywords, then words that the class itself looks for; their numbers are below. */
    private static final String WORDS =
            "var fun if else while return throw try catch new this null true false print make proto turn drop has kind host size push pop sub bool int long text object list class";
    private static final int KEYWORDS = 22;
    private static final int W_PROTO = 16;
    private static final int W_SIZE = 22;
    private static final int W_PUSH = 23;
    private static final int W_POP = 24;
    private static final int W_SUB = 25;
    private static final int W_LONG = 28;
    /** Of each kind of value the word that kind() tells; a number's is told apart by its size. */
    private static final int[] KIND_WORDS = {11, 26, 27, 29, 30, 1, 31, 21, 32};

    /** A host's words: the types by their numbers, then the others that are no names. */
    private static final String HOST_WORDS =
            "void int long bool Int Long Bool Text Any class interface static new";
    private static final int HW_CLASS = 9;
    private static final int HW_INTERFACE = 10;
    private static final int HW_STATIC = 11;
    private static final int HW_NEW = 12;
    private static final int HW_RESERVED = 13;

    /** How many ES each builtin wants. */
    private static final int[] WANTS = {1, 1, 1, 2, 2, 2, 1, 1};
    private static final int B_PRINT = 0;
    private static final int B_MAKE = 1;
    private static final int B_PROTO = 2;
    private static final int B_TURN = 3;
    private static final int B_DROP = 4;
    private static final int B_HAS = 5;
    private static final int B_KIND = 6;

    // How a task is.
    private static final int NOT_STARTED = 0;
    private static final int RUNS = 1;
    private static final int DONE = 2;
    private static final int FAILED = 3;
    private static final int STOPPED = 4;

    // What an instruction has met: nothing, an ERROR by its number, or the end of MEMORY.
    private static final int FINE = 0;
    private static final int NO_MEMORY = 99;

    private byte[] tape = new byte[256];
    private int tapeSize;
    private final Words words = new Words(1024, WORDS);
    private final Reader reader = new Reader();
    private final Code code = new Code();
    private final HostReader hostReader = new HostReader(reader);
    private final Compiler compiler = new Compiler(reader, words, code);
    private final Heap heap = new Heap(words);
    private final Linker linker = new Linker(heap, code);
    private final Task[] tasks = new Task[TASKS];
    /** The host that is not in use: the next one is read into it. */
    private Host spare = new Host();

    public LinkedTongue() {
        for (int t = 0; t < TASKS; t++) {
            tasks[t] = new Task(heap, code, linker);
        }
    }

    public int feed(long a, long b) {
        int more = 0;
        for (int i = 0; i < 16; i++) {
            int sign = fedByte(a, b, i);
            if (sign != 0) {
                if (!isSign(sign)) {
                    return NONE;
                }
                more++;
            }
        }
        if (tapeSize + more > TAPE_MOST) {
            return NONE;
        }
        if (tapeSize + more > tape.length) {
            tape = Arrays.copyOf(tape, tape.length * 2);
        }
        for (int i = 0; i < 16; i++) {
            int sign = fedByte(a, b, i);
            if (sign != 0) {
                tape[tapeSize] = (byte) sign;
                tapeSize++;
            }
        }
        return tapeSize;
    }

    private static int fedByte(long a, long b, int i) {
        return i < 8 ? (int) (a >>> (56 - 8 * i)) & 255 : (int) (b >>> (120 - 8 * i)) & 255;
    }

    private static boolean isSign(int c) {
        return c == 10 || c >= 32 && c <= 126;
    }

    public int host() {
        Host told = spare;
        int fault = hostReader.read(tape, tapeSize, told);
        tapeSize = 0;
        if (fault == 0) {
            spare = heap.host;
            words.clear();
            code.clear();
            heap.clear(told);
            linker.clear();
            for (int t = 0; t < TASKS; t++) {
                tasks[t].clear();
            }
        }
        return fault;
    }

    public int type(int k, int what) {
        Host host = heap.host;
        if (k < 0 || k >= host.typeCount || what < C_INTERFACE || what > C_FIRST) {
            return NONE;
        }
        return host.types[what][k];
    }

    public int member(int k, int what) {
        Host host = heap.host;
        if (k < 0 || k >= host.memberCount || what < M_CLASS) {
            return NONE;
        }
        boolean isThere = what < M_FIRST || what - M_FIRST < host.members[M_COUNT][k];
        return isThere ? host.members[what][k] : NONE;
    }

    public boolean subtype(int type, int of) {
        int most = CLASS_TYPES + heap.host.typeCount;
        return type > VOID && of > VOID && type < most && of < most && heap.host.isSubtype(type, of);
    }

    public int compile() {
        int size = tapeSize;
        tapeSize = 0;
        if (code.unitCount >= UNITS_MOST) {
            return -1 - 7;
        }
        int fault = compiler.read(tape, size);
        return fault == 0 ? compiler.commit() : -1 - fault;
    }

    public int function(int f, int what) {
        if (f < 0 || f >= code.functionCount || what < F_UNIT || what > F_SITES) {
            return NONE;
        }
        return code.functions[what][f];
    }

    public int code(int f, int i, int what) {
        if (f < 0 || f >= code.functionCount || i < 0 || i >= code.functions[F_INSTRUCTIONS][f]) {
            return NONE;
        }
        int place = code.functions[F_FIRST][f] + i;
        switch (what) {
            case 0:
                return code.ops[place];
            case 1:
                return code.as[place];
            case 2:
                return code.bs[place];
            default:
                return NONE;
        }
    }

    public int site(int s, int what) {
        if (s < 0 || s >= code.siteCount || what < S_KIND || what > S_MEGAMORPHIC) {
            return NONE;
        }
        return code.sites[what][s];
    }

    public int entry(int s, int k, int what) {
        if (s < 0 || s >= code.siteCount || k < 0 || k >= code.sites[S_ENTRIES][s]) {
            return NONE;
        }
        int[][] entries = code.entries;
        int e = code.sites[S_FIRST][s];
        for (int i = 0; i < k; i++) {
            e = entries[E_NEXT][e];
        }
        if (what == 5) {
            return heap.isStale(entries[E_GUARD][e], entries[E_HOLDER][e], entries[E_SINCE][e]) ? 1 : 0;
        }
        return what < E_LINKER || what > E_SHAPE ? NONE : entries[what][e];
    }

    public int name(int n, int i) {
        if (n < 0 || n >= words.nameCount) {
            return NONE;
        }
        int word = words.names[n];
        return i < 0 || i >= words.sizes[word] ? NONE : words.pool[words.starts[word] + i];
    }

    public boolean start(int t, int u) {
        if (t < 0 || t >= TASKS || u < 0 || u >= code.unitCount) {
            return false;
        }
        Task task = tasks[t];
        if (task.state == RUNS || !heap.hasRoom(L_MADE, 1)) {
            return false;
        }
        task.begin(code.units[u]);
        return true;
    }

    public int steps(int t, int n) throws IllegalArgumentException, IllegalStateException {
        if (t < 0 || t >= TASKS || n < 1 || n > STEPS_MOST) {
            throw new IllegalArgumentException("no such task, or number of steps");
        }
        Task task = tasks[t];
        if (task.state != RUNS) {
            throw new IllegalStateException("the task does not run");
        }
        int done = 0;
        for (int i = 0; i < n && task.state == RUNS; i++) {
            if (task.step()) {
                done++;
            }
        }
        return done;
    }

    public int task(int t, int what) {
        if (t < 0 || t >= TASKS) {
            return NONE;
        }
        Task task = tasks[t];
        switch (what) {
            case 0:
                return task.state;
            case 1:
                return task.calls;
            case 2:
                return task.pile.size;
            case 3:
                return task.calls > 0 ? task.functions[task.calls - 1] : NONE;
            case 4:
                return task.calls > 0 ? task.nexts[task.calls - 1] : NONE;
            default:
                return NONE;
        }
    }

    public long result(int t, int what) throws IndexOutOfBoundsException, IllegalStateException {
        if (t < 0 || t >= TASKS || what < 0 || what > 1) {
            throw new IndexOutOfBoundsException("no such task, or what");
        }
        Task task = tasks[t];
        if (task.state != DONE && task.state != FAILED) {
            throw new IllegalStateException("the task has no result");
        }
        return told(task.endKind, task.endBits, what);
    }

    public int sign(int t, int i) {
        if (t < 0 || t >= TASKS) {
            return NONE;
        }
        Task task = tasks[t];
        boolean ended = task.state == DONE || task.state == FAILED;
        if (!ended || task.endKind != K_TEXT || i < 0 || i >= sliceSize(task.endBits)) {
            return NONE;
        }
        return words.pool[sliceStart(task.endBits) + i];
    }

    public long global(int what) throws IndexOutOfBoundsException, NoSuchElementException {
        int size = tapeSize;
        tapeSize = 0;
        if (what < 0 || what > 1) {
            throw new IndexOutOfBoundsException("no such what");
        }
        int name = words.nameAt(tape, 0, size);
        Row globals = heap.globals;
        if (name == NONE || name >= globals.size || globals.kinds[name] == K_UNSET) {
            throw new NoSuchElementException("no such global");
        }
        return told(globals.kinds[name], globals.bits[name], what);
    }

    public int thing(int k, int what) {
        if (k < 0 || k >= heap.thingCount) {
            return NONE;
        }
        int[][] things = heap.things;
        boolean hasShape = things[T_SHAPE][k] != NONE;
        switch (what) {
            case 0:
                return things[T_KIND][k] - K_OBJECT;
            case 1:
                return things[T_SHAPE][k];
            case 2:
                return hasShape ? heap.shapes[H_PROTO][things[T_SHAPE][k]] : NONE;
            case 3:
                return things[T_KIND][k] == K_INSTANCE ? things[T_OF][k] : things[T_SIZE][k];
            case 4:
                return things[T_EPOCH][k];
            case 5:
                return things[T_KIND][k] == K_FUN ? things[T_OF][k] : NONE;
            default:
                return NONE;
        }
    }

    public long property(int k, int i, int what) throws IndexOutOfBoundsException {
        if (k < 0 || k >= heap.thingCount || what < 0 || what > 2) {
            throw new IndexOutOfBoundsException("no such thing, or what");
        }
        if (i < 0 || i >= heap.things[T_SIZE][k]) {
            throw new IndexOutOfBoundsException("no such property");
        }
        if (what == 2) {
            int shape = heap.things[T_SHAPE][k];
            return shape == NONE ? NONE : heap.nameIn(shape, i);
        }
        int at = heap.things[T_START][k] + i;
        return told(heap.cells.kinds[at], heap.cells.bits[at], what);
    }

    public int shape(int k, int what) {
        if (k < 0 || k >= heap.shapeCount || what < 0) {
            return NONE;
        }
        if (what < 2) {
            return heap.shapes[what == 0 ? H_PROTO : H_SIZE][k];
        }
        return what - 2 < heap.shapes[H_SIZE][k] ? heap.nameIn(k, what - 2) : NONE;
    }

    public int output(int i) {
        return i < 0 || i >= heap.outputSize ? NONE : heap.output[i];
    }

    public int trace(int i) {
        return i < 0 || i >= heap.traceSize ? NONE : heap.trace[i];
    }

    public int count(int what) {
        switch (what) {
            case 0:
                return tapeSize;
            case 1:
                return heap.host.typeCount;
            case 2:
                return heap.host.memberCount;
            case 3:
                return code.unitCount;
            case 4:
                return code.functionCount;
            case 5:
                return code.instructionCount;
            case 6:
                return code.siteCount;
            case 7:
                return code.descriptorCount;
            case 8:
                return words.nameCount;
            case 9:
                return words.textCount;
            default:
                return countOfRuns(what);
        }
    }

    private int countOfRuns(int what) {
        switch (what) {
            case 10:
                return heap.thingCount;
            case 11:
                return heap.callCount;
            case 12:
                return heap.shapeCount;
            case 13:
                return heap.host.keptCount;
            case 14:
                return heap.host.workedOut;
            case 15:
                return heap.outputSize;
            case 16:
                return heap.traceSize;
            case 17:
                return linker.wrong;
            default:
                return what >= 20 && what < 24 ? linker.asked[what - 20] : NONE;
        }
    }

    private static long told(int kind, long bits, int what) {
        if (what == 0) {
            return kind;
        }
        return kind == K_TEXT ? sliceSize(bits) : bits;
    }

    // A text is a slice of the pool of bytes: its start in the high half, its size in the low one.

    private static long slice(int start, int size) {
        return (long) start << 32 | size;
    }

    private static int sliceStart(long bits) {
        return (int) (bits >>> 32);
    }

    private static int sliceSize(long bits) {
        return (int) bits;
    }

    /** Doubles the columns of a table in which there is no room for one more. */
    private static void makeRoom(int[][] table, int count) {
        if (count >= table[0].length) {
            for (int i = 0; i < table.length; i++) {
                table[i] = Arrays.copyOf(table[i], count * 2);
            }
        }
    }

    private static boolean isCapital(int c) {
        return c >= 'A' && c <= 'Z';
    }

    private static boolean isSmall(int c) {
        return c >= 'a' && c <= 'z';
    }

    private static boolean isDigit(int c) {
        return c >= '0' && c <= '9';
    }

    private static boolean beginsName(int c) {
        return isCapital(c) || isSmall(c) || c == '_';
    }

    /** The bytes of all texts, and the words among them that are kept once and have a number. */
    private static final class Words {
        byte[] pool = new byte[1024];
        int used;
        int[] starts = new int[64];
        int[] sizes = new int[64];
        /** The next word of the same head, plus one. */
        int[] nexts = new int[64];
        int[] nameOf = new int[64];
        int[] textOf = new int[64];
        int count;
        final int[] heads;
        int[] names = new int[64];
        int nameCount;
        int[] texts = new int[64];
        int textCount;
        /** What used, count, nameCount and textCount were when a unit's reading began. */
        final int[] marks = new int[4];
        /** How many words, of how many bytes, there are from the beginning on. */
        private final int firstCount;
        private final int firstUsed;

        /** The number of heads is a power of two; the words of the list have blanks between. */
        Words(int headCount, String list) {
            heads = new int[headCount];
            addAll(list);
            firstCount = count;
            firstUsed = used;
        }

        /** Takes back all but the words that there are from the beginning on. */
        void clear() {
            marks[0] = firstUsed;
            marks[1] = firstCount;
            marks[2] = 0;
            marks[3] = 0;
            takeBack();
        }

        int append(byte[] source, int at, int size) {
            if (used + size > pool.length) {
                pool = Arrays.copyOf(pool, Math.max(used + size, pool.length * 2));
            }
            System.arraycopy(source, at, pool, used, size);
            used += size;
            return used - size;
        }

        private void addAll(String list) {
            int end = list.length();
            byte[] bytes = new byte[end];
            int begin = 0;
            for (int i = 0; i < end; i++) {
                bytes[i] = (byte) list.charAt(i);
                if (bytes[i] == ' ') {
                    wordFor(bytes, begin, i - begin);
                    begin = i + 1;
                }
            }
            wordFor(bytes, begin, end - begin);
        }

        private int headOf(byte[] source, int at, int size) {
            int mixed = size;
            for (int i = 0; i < size; i++) {
                mixed = mixed * 31 + source[at + i];
            }
            return (mixed ^ mixed >>> 11) & heads.length - 1;
        }

        private boolean isWord(int word, byte[] source, int at, int size) {
            if (sizes[word] != size) {
                return false;
            }
            for (int i = 0; i < size; i++) {
                if (pool[starts[word] + i] != source[at + i]) {
                    return false;
                }
            }
            return true;
        }

        /** The word that these bytes are, NONE if they are none. */
        int wordAt(byte[] source, int at, int size) {
            if (size > TEXT_SIGNS) {
                return NONE;
            }
            int word = heads[headOf(source, at, size)] - 1;
            for (int i = 0; i < count && word >= 0; i++) {
                if (isWord(word, source, at, size)) {
                    return word;
                }
                word = nexts[word] - 1;
            }
            return NONE;
        }

        /** The word that these bytes are, made if there is none. */
        int wordFor(byte[] source, int at, int size) {
            int word = wordAt(source, at, size);
            if (word != NONE) {
                return word;
            }
            word = count;
            if (word == starts.length) {
                starts = Arrays.copyOf(starts, word * 2);
                sizes = Arrays.copyOf(sizes, word * 2);
                nexts = Arrays.copyOf(nexts, word * 2);
                nameOf = Arrays.copyOf(nameOf, word * 2);
                textOf = Arrays.copyOf(textOf, word * 2);
            }
            int head = headOf(source, at, size);
            starts[word] = append(source, at, size);
            sizes[word] = size;
            nexts[word] = heads[head];
            heads[head] = word + 1;
            nameOf[word] = NONE;
            textOf[word] = NONE;
            count++;
            return word;
        }

        /** The number of the name that these bytes are, NONE if they are none. */
        int nameAt(byte[] source, int at, int size) {
            int word = wordAt(source, at, size);
            return word == NONE ? NONE : nameOf[word];
        }

        /** A word's number as a name, made if there is room; else NONE. */
        int nameFor(int word) {
            if (nameOf[word] == NONE && nameCount < NAMES_MOST) {
                if (nameCount == names.length) {
                    names = Arrays.copyOf(names, nameCount * 2);
                }
                names[nameCount] = word;
                nameOf[word] = nameCount;
                nameCount++;
            }
            return nameOf[word];
        }

        /** A word's number as a text of the sources, made if there is room; else NONE. */
        int textFor(int word) {
            if (textOf[word] == NONE && textCount < TEXTS_MOST) {
                if (textCount == texts.length) {
                    texts = Arrays.copyOf(texts, textCount * 2);
                }
                texts[textCount] = word;
                textOf[word] = textCount;
                textCount++;
            }
            return textOf[word];
        }

        void mark() {
            marks[0] = used;
            marks[1] = count;
            marks[2] = nameCount;
            marks[3] = textCount;
        }

        /** Takes back what came since the mark: a unit that is refused takes no room. */
        void takeBack() {
            for (int n = marks[2]; n < nameCount; n++) {
                nameOf[names[n]] = NONE;
            }
            for (int n = marks[3]; n < textCount; n++) {
                textOf[texts[n]] = NONE;
            }
            // The latest word of a head stands first, so they go from the last one on.
            for (int word = count - 1; word >= marks[1]; word--) {
                heads[headOf(pool, starts[word], sizes[word])] = nexts[word];
            }
            used = marks[0];
            count = marks[1];
            nameCount = marks[2];
            textCount = marks[3];
        }

        long sliceOf(int word) {
            return slice(starts[word], sizes[word]);
        }

        /** Less than 0, 0 or more, as one text comes ahead of another, is the same, or behind. */
        int compare(long one, long other) {
            if (one == other) {
                return 0;
            }
            int size = Math.min(sliceSize(one), sliceSize(other));
            int at = sliceStart(one);
            int beside = sliceStart(other);
            for (int i = 0; i < size; i++) {
                if (pool[at + i] != pool[beside + i]) {
                    return pool[at + i] - pool[beside + i];
                }
            }
            return sliceSize(one) - sliceSize(other);
        }
    }

    /** The tokens of a tape; a bad one is the last one ahead of the end. */
    private static final class Reader {
        byte[] kinds = new byte[64];
        int[] places = new int[64];
        int[] values = new int[64];
        int count;
        int at;
        private byte[] tape;
        private int size;
        private Words words;
        private boolean ofHost;
        private final byte[] unescaped = new byte[TEXT_SIGNS];

        void read(byte[] signs, int length, Words into, boolean isHost) {
            tape = signs;
            size = length;
            words = into;
            ofHost = isHost;
            count = 0;
            at = 0;
            int place = behindBlanks(0);
            for (int i = 0; i < size && place < size; i++) {
                place = behindBlanks(addToken(place));
            }
            add(T_END, size, 0);
        }

        int kind() {
            return kinds[at];
        }

        int kindBehind() {
            return at + 1 < count ? kinds[at + 1] : T_END;
        }

        int value() {
            return values[at];
        }

        void next() {
            if (at + 1 < count) {
                at++;
            }
        }

        private void add(int kind, int place, int value) {
            if (count == kinds.length) {
                kinds = Arrays.copyOf(kinds, count * 2);
                places = Arrays.copyOf(places, count * 2);
                values = Arrays.copyOf(values, count * 2);
            }
            kinds[count] = (byte) kind;
            places[count] = place;
            values[count] = value;
            count++;
        }

        private int signAt(int place) {
            return place < size ? tape[place] : 0;
        }

        private int behindBlanks(int from) {
            boolean comment = false;
            for (int i = from; i < size; i++) {
                int c = tape[i];
                if (c == 10) {
                    comment = false;
                } else if (c == '/' && signAt(i + 1) == '/') {
                    comment = true;
                } else if (c != ' ' && !comment) {
                    return i;
                }
            }
            return size;
        }

        /** Adds the token that begins here: where it ends, the tape's end for a bad one. */
        private int addToken(int place) {
            int c = tape[place];
            if (beginsName(c)) {
                return addName(place);
            }
            if (isDigit(c)) {
                return addNumber(place);
            }
            return c == '"' ? addText(place) : addSign(place);
        }

        private int addBad(int place) {
            add(T_BAD, place, 0);
            return size;
        }

        private int addName(int place) {
            int end = place;
            while (end < size && (beginsName(tape[end]) || isDigit(tape[end]))) {
                end++;
            }
            if (end - place > NAME_SIGNS) {
                return addBad(place);
            }
            int word = words.wordFor(tape, place, end - place);
            if (ofHost) {
                add(T_NAME, place, word);
            } else if (word < KEYWORDS) {
                add(T_KEY + word, place, 0);
            } else {
                int name = words.nameFor(word);
                add(name == NONE ? T_NAME_FULL : T_NAME, place, name);
            }
            return end;
        }

        private int addNumber(int place) {
            int end = place;
            long number = 0;
            while (end < size && isDigit(tape[end])) {
                if (end - place < DIGITS_MOST) {
                    number = number * 10 + tape[end] - '0';
                }
                end++;
            }
            if (end - place > DIGITS_MOST || number > NUMBER_MOST) {
                return addBad(place);
            }
            add(T_NUMBER, place, (int) number);
            return end;
        }

        private int addText(int place) {
            int signs = 0;
            int i = place + 1;
            while (i < size && tape[i] != '"') {
                int c = tape[i];
                if (c == '\\') {
                    i++;
                    c = escaped(signAt(i));
                }
                if (c < 0 || c == 10 && tape[i] == 10 || signs == TEXT_SIGNS) {
                    return addBad(place);
                }
                unescaped[signs] = (byte) c;
                signs++;
                i++;
            }
            if (i >= size) {
                return addBad(place);
            }
            // A host's texts can come nowhere: they need no number.
            int text = ofHost ? 0 : words.textFor(words.wordFor(unescaped, 0, signs));
            add(text == NONE ? T_TEXT_FULL : T_TEXT, place, text);
            return i + 1;
        }

        private static int escaped(int c) {
            if (c == 'n') {
                return 10;
            }
            return c == '"' || c == '\\' ? c : NONE;
        }

        private int addSign(int place) {
            int c = tape[place];
            int second = signAt(place + 1);
            int kind = NONE;
            if (second == '=' && (c == '=' || c == '!' || c == '<' || c == '>')) {
                kind = c == '=' ? T_EQUAL : c == '!' ? T_UNEQUAL : c == '<' ? T_AT_MOST : T_AT_LEAST;
            } else if (c == second && (c == '&' || c == '|')) {
                kind = c == '&' ? T_AND : T_OR;
            }
            if (kind != NONE) {
                add(kind, place, 0);
                return place + 2;
            }
            if (ofHost && c == '.' && second == '.' && signAt(place + 2) == '.') {
                add(T_DOTS, place, 0);
                return place + 3;
            }
            int single = SIGNS.indexOf((char) c);
            if (single < 0) {
                return addBad(place);
            }
            add(T_SIGN + single, place, 0);
            return place + 1;
        }
    }

    /** Reads a text into a host; the first fault ends it by an exception of its own. */
    private static final class HostReader {
        private final Reader reader;
        private Host host;
        private int fault;
        private final int[] supers = new int[CLASSES_MOST];
        private int superCount;

        HostReader(Reader reader) {
            this.reader = reader;
        }

        /** Fills the host: 0, or the fault. */
        int read(byte[] tape, int size, Host told) {
            host = told;
            host.clear();
            fault = 0;
            reader.read(tape, size, told.words, true);
            try {
                readClasses();
            } catch (IllegalStateException refused) {
                return fault;
            }
            return 0;
        }

        private void refuse(int kind) {
            fault = kind + 16 * reader.places[reader.at];
            throw new IllegalStateException("a fault in the host's text");
        }

        private void take(int kind) {
            if (reader.kind() != kind) {
                refuse(1);
            }
            reader.next();
        }

        /** The word of the name that stands here. */
        private int wordHere() {
            if (reader.kind() != T_NAME) {
                refuse(1);
            }
            return reader.value();
        }

        private void readClasses() {
            for (int i = 0; i < reader.count && reader.kind() != T_END; i++) {
                int word = wordHere();
                if (word != HW_CLASS && word != HW_INTERFACE) {
                    refuse(1);
                }
                reader.next();
                readClass(word == HW_INTERFACE);
            }
        }

        private void readClass(boolean isInterface) {
            int word = wordHere();
            if (word < HW_RESERVED || host.classTyped(word) != NONE) {
                refuse(2);
            }
            if (host.typeCount == CLASSES_MOST) {
                refuse(5);
            }
            reader.next();
            superCount = 0;
            int above = NONE;
            if (reader.kind() == T_COLON) {
                above = readSupers(isInterface);
            }
            host.addClass(isInterface, above, word);
            host.setOrder(supers, superCount);
            take(T_BRACE);
            for (int i = 0; i < reader.count && reader.kind() != T_BRACE_END; i++) {
                readHead(isInterface);
                int m = host.memberCount - 1;
                if (host.members[M_SORT][m] != FIELD) {
                    readParameters(m);
                }
                take(T_SEMICOLON);
            }
            take(T_BRACE_END);
            host.endClass();
        }

        /** Reads : and the supers: the class among them, or NONE. */
        private int readSupers(boolean isInterface) {
            int above = NONE;
            do {
                reader.next();
                int told = host.classTyped(wordHere());
                if (told == NONE) {
                    refuse(3);
                }
                boolean isClass = host.types[C_INTERFACE][told] == 0;
                if (isClass && (isInterface || above != NONE) || isSuper(told)) {
                    refuse(4);
                }
                if (isClass) {
                    above = told;
                }
                supers[superCount] = told;
                superCount++;
                reader.next();
            } while (reader.kind() == T_COMMA && superCount < CLASSES_MOST);
            return above;
        }

        private boolean isSuper(int told) {
            for (int i = 0; i < superCount; i++) {
                if (supers[i] == told) {
                    return true;
                }
            }
            return false;
        }

        /** The type whose word stands here, also void. */
        private int typeHere() {
            int word = wordHere();
            if (word <= ANY) {
                return word;
            }
            int told = host.classTyped(word);
            if (told == NONE) {
                refuse(3);
            }
            return CLASS_TYPES + told;
        }

        /** Reads a member up to what stands behind its name, or new. */
        private void readHead(boolean ofInterface) {
            boolean isStatic = wordHere() == HW_STATIC;
            if (isStatic) {
                if (ofInterface) {
                    refuse(6);
                }
                reader.next();
            }
            boolean isNew = wordHere() == HW_NEW;
            if (isNew && isStatic) {
                refuse(1);
            }
            int type = isNew ? CLASS_TYPES + host.typeCount - 1 : typeHere();
            if (host.memberCount == MEMBERS_MOST) {
                refuse(5);
            }
            if (isNew && ofInterface) {
                refuse(6);
            }
            reader.next();
            if (isNew) {
                host.addMember(CONSTRUCTOR, type, HW_NEW);
            } else {
                readName(ofInterface, type);
            }
            host.members[M_STATIC][host.memberCount - 1] = isStatic ? 1 : 0;
        }

        /** Reads the name of a field or method; what stands behind it tells which it is. */
        private void readName(boolean ofInterface, int type) {
            int word = wordHere();
            if (word < HW_RESERVED) {
                refuse(2);
            }
            boolean isField = reader.kindBehind() == T_SEMICOLON && type != VOID;
            if (isField && host.hasOwnField(word)) {
                refuse(2);
            }
            if (isField && ofInterface) {
                refuse(6);
            }
            reader.next();
            host.addMember(isField ? FIELD : METHOD_SORT, type, word);
        }

        private void readParameters(int m) {
            int[][] members = host.members;
            take(T_OPEN);
            boolean more = reader.kind() != T_CLOSE;
            for (int i = 0; more && i < reader.count; i++) {
                int type = typeHere();
                if (type == VOID) {
                    refuse(3);
                }
                if (members[M_COUNT][m] == PARAMETERS_MOST) {
                    refuse(5);
                }
                members[M_FIRST + members[M_COUNT][m]][m] = type;
                members[M_COUNT][m]++;
                reader.next();
                if (reader.kind() == T_DOTS) {
                    members[M_VARIABLE][m] = 1;
                    reader.next();
                }
                more = reader.kind() == T_COMMA && members[M_VARIABLE][m] == 0;
                if (more) {
                    reader.next();
                }
            }
            if (reader.kind() == T_CLOSE && host.isToldAlready(m)) {
                refuse(7);
            }
            take(T_CLOSE);
        }
    }

    /** A host's classes and members, and which of overloaded members is meant. */
    private static final class Host {
        final Words words = new Words(64, HOST_WORDS);
        final int[][] types = new int[C_WIDTH][CLASSES_MOST];
        int typeCount;
        final int[][] members = new int[M_WIDTH][MEMBERS_MOST];
        int memberCount;
        /** Of each class itself and all above it, in the order in which members are looked for. */
        private final int[] orders = new int[CLASSES_MOST * CLASSES_MOST];
        /** The same as a set of bits. */
        private final long[] above = new long[CLASSES_MOST];
        final Row statics = new Row(16);
        private final byte[] scratch = new byte[NAME_SIGNS];
        private int[] candidates = new int[64];
        private int candidateCount;
        /** Choices kept: what is asked, the classes of the ES, what was chosen, chains by heads. */
        private int[] keptAsked = new int[64];
        private long[] keptEs = new long[64];
        private int[] keptAnswers = new int[64];
        private int[] keptNexts = new int[64];
        private final int[] keptHeads = new int[128];
        int keptCount;
        int keptMost = LIFE_MOST[L_CHOICES];
        int workedOut;

        void clear() {
            words.clear();
            typeCount = 0;
            memberCount = 0;
            statics.size = 0;
            Arrays.fill(keptHeads, 0);
            keptCount = 0;
            workedOut = 0;
        }

        int classTyped(int word) {
            for (int k = 0; k < typeCount; k++) {
                if (types[C_WORD][k] == word) {
                    return k;
                }
            }
            return NONE;
        }

        void addClass(boolean isInterface, int classAbove, int word) {
            int k = typeCount;
            types[C_INTERFACE][k] = isInterface ? 1 : 0;
            types[C_ABOVE][k] = classAbove;
            types[C_MEMBERS][k] = 0;
            types[C_FIRST][k] = memberCount;
            types[C_WORD][k] = word;
            typeCount++;
        }

        /** Sets the order of the latest class: classes first, then interfaces, each one once. */
        void setOrder(int[] supers, int superCount) {
            int k = typeCount - 1;
            types[C_SUPERS][k] = superCount;
            types[C_ORDER][k] = 0;
            above[k] = 0;
            int up = k;
            for (int i = 0; i < typeCount && up != NONE; i++) {
                addToOrder(k, up);
                up = types[C_ABOVE][up];
            }
            for (int i = 0; i < superCount; i++) {
                if (types[C_INTERFACE][supers[i]] == 1) {
                    addOrder(k, supers[i]);
                }
            }
            up = types[C_ABOVE][k];
            if (up != NONE) {
                addOrder(k, up);
            }
        }

        private void addOrder(int k, int other) {
            for (int i = 0; i < types[C_ORDER][other]; i++) {
                addToOrder(k, orders[other * CLASSES_MOST + i]);
            }
        }

        /** Adds a class to another one's order, if it does not stand there yet. */
        private void addToOrder(int k, int one) {
            if ((above[k] >>> one & 1) == 0) {
                orders[k * CLASSES_MOST + types[C_ORDER][k]] = one;
                types[C_ORDER][k]++;
                above[k] |= 1L << one;
            }
        }

        void addMember(int sort, int type, int word) {
            int m = memberCount;
            members[M_CLASS][m] = typeCount - 1;
            members[M_SORT][m] = sort;
            members[M_TYPE][m] = type;
            members[M_COUNT][m] = 0;
            members[M_VARIABLE][m] = 0;
            members[M_WORD][m] = word;
            members[M_FIELD][m] = NONE;
            memberCount++;
            types[C_MEMBERS][typeCount - 1]++;
        }

        boolean hasOwnField(int word) {
            for (int m = types[C_FIRST][typeCount - 1]; m < memberCount; m++) {
                if (members[M_SORT][m] == FIELD && members[M_WORD][m] == word) {
                    return true;
                }
            }
            return false;
        }

        /** Whether the latest member has the name and types of another one of its class. */
        boolean isToldAlready(int latest) {
            for (int m = types[C_FIRST][typeCount - 1]; m < latest; m++) {
                if (members[M_SORT][m] == members[M_SORT][latest]
                        && members[M_WORD][m] == members[M_WORD][latest] && haveSameTypes(m, latest)) {
                    return true;
                }
            }
            return false;
        }

        private boolean haveSameTypes(int one, int other) {
            if (members[M_COUNT][one] != members[M_COUNT][other]) {
                return false;
            }
            for (int i = 0; i < members[M_COUNT][one]; i++) {
                if (members[M_FIRST + i][one] != members[M_FIRST + i][other]) {
                    return false;
                }
            }
            return true;
        }

        /** Lays out the fields of the class that was read, then finds what its methods give. */
        void endClass() {
            int k = typeCount - 1;
            int up = types[C_ABOVE][k];
            types[C_FIELDS][k] = up == NONE ? 0 : types[C_FIELDS][up];
            types[C_LAST][k] = up == NONE ? NONE : types[C_LAST][up];
            for (int m = types[C_FIRST][k]; m < memberCount; m++) {
                if (members[M_SORT][m] == FIELD) {
                    layOut(k, m);
                }
            }
            for (int m = types[C_FIRST][k]; m < memberCount; m++) {
                if (members[M_SORT][m] == METHOD_SORT) {
                    members[M_FIELD][m] = fieldOf(m);
                }
            }
        }

        private void layOut(int k, int m) {
            if (members[M_STATIC][m] == 1) {
                members[M_FIELD][m] = statics.size;
                statics.add(firstKind(members[M_TYPE][m]), 0);
            } else {
                members[M_FIELD][m] = types[C_FIELDS][k];
                members[M_BEFORE][m] = types[C_LAST][k];
                types[C_LAST][k] = m;
                types[C_FIELDS][k]++;
            }
        }

        /** The kind of value that a field of a type has at first. */
        static int firstKind(int type) {
            if (type == INT || type == LONG) {
                return K_NUMBER;
            }
            return type == BOOL ? K_BOOL : K_NULL;
        }

        /** The field that a method get, is or set + X gives or sets; NONE for another method. */
        private int fieldOf(int m) {
            int word = members[M_WORD][m];
            boolean gets = members[M_COUNT][m] == 0;
            boolean sets = members[M_TYPE][m] == VOID && members[M_COUNT][m] == 1
                    && members[M_VARIABLE][m] == 0;
            int head = 0;
            if (gets && begins(word, "get") || sets && begins(word, "set")) {
                head = 3;
            } else if (gets && members[M_TYPE][m] == BOOL && begins(word, "is")) {
                head = 2;
            }
            int start = words.starts[word] + head;
            int size = words.sizes[word] - head;
            if (head == 0 || size < 1 || !isCapital(words.pool[start])) {
                return NONE;
            }
            System.arraycopy(words.pool, start, scratch, 0, size);
            scratch[0] += 'a' - 'A';
            int named = words.wordAt(scratch, 0, size);
            int field = named == NONE ? NONE : nearestField(members[M_CLASS][m], named, NONE);
            if (field == NONE || members[M_STATIC][field] != members[M_STATIC][m]) {
                return NONE;
            }
            int wanted = members[gets ? M_TYPE : M_FIRST][m];
            return members[M_TYPE][field] == wanted ? field : NONE;
        }

        private boolean begins(int word, String head) {
            if (words.sizes[word] < head.length()) {
                return false;
            }
            for (int i = 0; i < head.length(); i++) {
                if (words.pool[words.starts[word] + i] != head.charAt(i)) {
                    return false;
                }
            }
            return true;
        }

        /** The nearest field of a name; isStatic is 1, 0, or NONE for either. */
        int nearestField(int k, int word, int isStatic) {
            int up = k;
            for (int i = 0; i < typeCount && up != NONE; i++) {
                int end = types[C_FIRST][up] + types[C_MEMBERS][up];
                for (int m = types[C_FIRST][up]; m < end; m++) {
                    if (members[M_SORT][m] == FIELD && members[M_WORD][m] == word
                            && (isStatic == NONE || isStatic == members[M_STATIC][m])) {
                        return m;
                    }
                }
                up = types[C_ABOVE][up];
            }
            return NONE;
        }

        /** The method of a name without parameters that a class has, or NONE. */
        int plainMethod(int k, int word, int isStatic) {
            for (int i = 0; i < types[C_ORDER][k]; i++) {
                int up = orders[k * CLASSES_MOST + i];
                int end = types[C_FIRST][up] + types[C_MEMBERS][up];
                for (int m = types[C_FIRST][up]; m < end; m++) {
                    if (members[M_SORT][m] == METHOD_SORT && members[M_WORD][m] == word
                            && members[M_COUNT][m] == 0 && members[M_STATIC][m] == isStatic) {
                        return m;
                    }
                }
            }
            return NONE;
        }

        /** Both are types, and none is void. */
        boolean isSubtype(int type, int of) {
            if (type == of || type == INT && of == LONG) {
                return true;
            }
            if (of == ANY) {
                return type > BOOL;
            }
            return type >= CLASS_TYPES && of >= CLASS_TYPES
                    && (above[type - CLASS_TYPES] >>> of - CLASS_TYPES & 1) == 1;
        }

        /** Whether a value of a class (VOID: null) goes to a parameter; loosely as in phase 2. */
        boolean goesTo(int of, int parameter, boolean loosely) {
            if (parameter > BOOL) {
                return of == VOID || isSubtype(of, parameter);
            }
            return loosely && (of == BIG_INT && (parameter == INT || parameter == LONG)
                    || of == BIG_LONG && parameter == LONG || of == BIG_BOOL && parameter == BOOL);
        }

        /** Chooses among overloaded members: NONE if there are none; -8, -9 for these ERRORS. */
        int choose(int k, int among, int word, boolean forSet, long es, int esCount) {
            if (word == NONE) {
                return NONE;
            }
            int asked = (((k * 4 + among) * 2 + (forSet ? 1 : 0)) * 16 + esCount) * 1024 + word;
            int kept = keptAt(asked, es);
            if (kept != NONE) {
                return keptAnswers[kept];
            }
            gather(k, among, word, forSet);
            if (candidateCount == 0) {
                return NONE;
            }
            workedOut++;
            int chosen = -9;
            for (int phase = 1; phase <= 3 && chosen == -9; phase++) {
                int fitting = 0;
                for (int i = 0; i < candidateCount; i++) {
                    if (fits(candidates[i], phase, es, esCount)) {
                        candidates[fitting] = candidates[i];
                        fitting++;
                    }
                }
                if (fitting > 0) {
                    chosen = mostSpecific(fitting, phase);
                }
            }
            if (keptCount < keptMost) {
                keep(asked, es, chosen);
            }
            return chosen;
        }

        /** Gathers those that may be meant: none with the types of one that comes ahead. */
        private void gather(int k, int among, int word, boolean forSet) {
            candidateCount = 0;
            int classes = among == CONSTRUCTORS ? 1 : types[C_ORDER][k];
            int sort = among == CONSTRUCTORS ? CONSTRUCTOR : METHOD_SORT;
            int isStatic = among == STATICS ? 1 : 0;
            for (int i = 0; i < classes; i++) {
                int up = orders[k * CLASSES_MOST + i];
                int end = types[C_FIRST][up] + types[C_MEMBERS][up];
                for (int m = types[C_FIRST][up]; m < end; m++) {
                    if (members[M_SORT][m] == sort && members[M_STATIC][m] == isStatic
                            && members[M_WORD][m] == word && (!forSet || members[M_COUNT][m] == 1)
                            && !isHidden(m)) {
                        addCandidate(m);
                    }
                }
            }
        }

        private boolean isHidden(int m) {
            for (int i = 0; i < candidateCount; i++) {
                if (haveSameTypes(candidates[i], m)) {
                    return true;
                }
            }
            return false;
        }

        private void addCandidate(int m) {
            if (candidateCount == candidates.length) {
                candidates = Arrays.copyOf(candidates, candidateCount * 2);
            }
            candidates[candidateCount] = m;
            candidateCount++;
        }

        private boolean fits(int m, int phase, long es, int esCount) {
            boolean isVariable = phase == 3;
            int wanted = members[M_COUNT][m];
            if (members[M_VARIABLE][m] != (isVariable ? 1 : 0)) {
                return false;
            }
            if (isVariable ? esCount < wanted - 1 : esCount != wanted) {
                return false;
            }
            for (int i = 0; i < esCount; i++) {
                int of = (int) (es >>> 7 * i) & 127;
                if (!goesTo(of, parameterType(m, i), phase > 1)) {
                    return false;
                }
            }
            return true;
        }

        /** The type of a parameter; the last one stands for all that are wanting. */
        int parameterType(int m, int i) {
            return members[M_FIRST + (i < members[M_COUNT][m] ? i : members[M_COUNT][m] - 1)][m];
        }

        /** Of the first candidates the single one that is more specific than each other one. */
        private int mostSpecific(int fitting, int phase) {
            int chosen = -8;
            int several = 0;
            for (int i = 0; i < fitting; i++) {
                boolean isMost = true;
                for (int j = 0; j < fitting && isMost; j++) {
                    isMost = isMoreSpecific(candidates[i], candidates[j], phase);
                }
                if (isMost) {
                    chosen = candidates[i];
                    several++;
                }
            }
            return several == 1 ? chosen : -8;
        }

        private boolean isMoreSpecific(int one, int other, int phase) {
            int size = members[M_COUNT][one];
            if (phase == 3) {
                size = Math.max(size, members[M_COUNT][other]);
            }
            for (int i = 0; i < size; i++) {
                if (!isSubtype(parameterType(one, i), parameterType(other, i))) {
                    return false;
                }
            }
            return true;
        }

        private static int keptHead(int asked, long es) {
            long mixed = asked * 31L + es;
            mixed ^= mixed >>> 29;
            return (int) (mixed ^ mixed >>> 13) & 127;
        }

        /** Where a choice is kept, or NONE. */
        private int keptAt(int asked, long es) {
            int at = keptHeads[keptHead(asked, es)] - 1;
            for (int i = 0; i < keptCount && at >= 0; i++) {
                if (keptAsked[at] == asked && keptEs[at] == es) {
                    return at;
                }
                at = keptNexts[at] - 1;
            }
            return NONE;
        }

        private void keep(int asked, long es, int answer) {
            if (keptCount == keptAsked.length) {
                keptAsked = Arrays.copyOf(keptAsked, keptCount * 2);
                keptEs = Arrays.copyOf(keptEs, keptCount * 2);
                keptAnswers = Arrays.copyOf(keptAnswers, keptCount * 2);
                keptNexts = Arrays.copyOf(keptNexts, keptCount * 2);
            }
            int head = keptHead(asked, es);
            keptAsked[keptCount] = asked;
            keptEs[keptCount] = es;
            keptAnswers[keptCount] = answer;
            keptNexts[keptCount] = keptHeads[head];
            keptCount++;
            keptHeads[head] = keptCount;
        }
    }

    /** The functions, instructions and sites of all units, and what the sites have linked. */
    private static final class Code {
        final int[][] functions = new int[F_WIDTH][FUNCTIONS_MOST];
        int functionCount;
        final int[] units = new int[UNITS_MOST];
        int unitCount;
        int[] ops = new int[256];
        int[] as = new int[256];
        int[] bs = new int[256];
        int instructionCount;
        final int[][] sites = new int[S_WIDTH][64];
        int siteCount;
        /** The entries of all sites, each site's in a chain; those that went are used again. */
        final int[][] entries = new int[E_WIDTH][64];
        private int entryCount;
        private int freeEntry = NONE;
        /** The first site of each descriptor, and chains of these by heads. */
        private int[] firstSites = new int[64];
        private int[] nexts = new int[64];
        private final int[] heads = new int[256];
        int descriptorCount;

        void clear() {
            functionCount = 0;
            unitCount = 0;
            instructionCount = 0;
            siteCount = 0;
            entryCount = 0;
            freeEntry = NONE;
            descriptorCount = 0;
            Arrays.fill(heads, 0);
        }

        /** Makes room for instructions that are filled in afterwards. */
        void addInstructions(int more) {
            instructionCount += more;
            if (instructionCount > ops.length) {
                int room = Math.max(instructionCount, ops.length * 2);
                ops = Arrays.copyOf(ops, room);
                as = Arrays.copyOf(as, room);
                bs = Arrays.copyOf(bs, room);
            }
        }

        int addSite(int kind, int name, int es, int function, int instruction) {
            int s = siteCount;
            makeRoom(sites, s);
            for (int i = 0; i < S_WIDTH; i++) {
                sites[i][s] = 0;
            }
            sites[S_KIND][s] = kind;
            sites[S_NAME][s] = name;
            sites[S_ES][s] = es;
            sites[S_FUNCTION][s] = function;
            sites[S_INSTRUCTION][s] = instruction;
            sites[S_FIRST][s] = NONE;
            siteCount++;
            sites[S_DESCRIPTOR][s] = descriptorOf(s);
            return s;
        }

        /** The descriptor of a site, made if it is the first one of its like. */
        private int descriptorOf(int s) {
            int head = (sites[S_NAME][s] * 7 + sites[S_KIND][s] + sites[S_ES][s] * 61) & 255;
            int d = heads[head] - 1;
            for (int i = 0; i < descriptorCount && d >= 0; i++) {
                int other = firstSites[d];
                if (sites[S_KIND][other] == sites[S_KIND][s] && sites[S_NAME][other] == sites[S_NAME][s]
                        && sites[S_ES][other] == sites[S_ES][s]) {
                    return d;
                }
                d = nexts[d] - 1;
            }
            d = descriptorCount;
            if (d == nexts.length) {
                nexts = Arrays.copyOf(nexts, d * 2);
                firstSites = Arrays.copyOf(firstSites, d * 2);
            }
            firstSites[d] = s;
            nexts[d] = heads[head];
            heads[head] = d + 1;
            descriptorCount++;
            return d;
        }

        /** An entry that no site has. */
        int takeEntry() {
            int e = freeEntry;
            if (e != NONE) {
                freeEntry = entries[E_NEXT][e];
                return e;
            }
            makeRoom(entries, entryCount);
            entryCount++;
            return entryCount - 1;
        }

        /** Takes an entry from a site's chain; before is the one ahead of it there, or NONE. */
        void removeEntry(int s, int before, int e) {
            if (before == NONE) {
                sites[S_FIRST][s] = entries[E_NEXT][e];
            } else {
                entries[E_NEXT][before] = entries[E_NEXT][e];
            }
            sites[S_ENTRIES][s]--;
            entries[E_NEXT][e] = freeEntry;
            freeEntry = e;
        }
    }

    /**
     * Reads a unit and makes its code. Instructions are noted as they come, those of functions
     * within one another mixed; commit() puts them in order when the whole unit is without fault.
     */
    private static final class Compiler {
        private static final int NO_TARGET = 0;
        private static final int NAME_TARGET = 1;
        private static final int PROPERTY_TARGET = 2;
        private static final int ELEMENT_TARGET = 3;

        private final Reader reader;
        private final Words words;
        private final Code code;
        private int[] ops = new int[256];
        private int[] as = new int[256];
        private int[] bs = new int[256];
        private int[] owners = new int[256];
        private int noted;
        private int siteCount;
        /** The unit's functions stand behind those of the code, to which they do not belong yet. */
        private final int[][] functions;
        private int functionCount;
        private int current;
        private final int[][] variables = new int[V_WIDTH][64];
        private int variableCount;
        /** Operators that wait for their right side: a token, and the instruction that jumps. */
        private final int[] waiting = new int[1024];
        private int waitingSize;
        private int target;
        private int fault;

        Compiler(Reader reader, Words words, Code code) {
            this.reader = reader;
            this.words = words;
            this.code = code;
            functions = code.functions;
        }

        /** Reads a unit: 0, or its fault, and then nothing of it is left. */
        int read(byte[] tape, int size) {
            noted = 0;
            siteCount = 0;
            functionCount = 0;
            variableCount = 0;
            waitingSize = 0;
            fault = 0;
            words.mark();
            reader.read(tape, size, words, false);
            try {
                readUnit();
            } catch (IllegalStateException refused) {
                words.takeBack();
                return fault;
            }
            return 0;
        }

        private void refuse(int kind) {
            fault = kind + 16 * reader.places[reader.at];
            throw new IllegalStateException("a fault in the source");
        }

        private void readUnit() {
            if (code.functionCount >= FUNCTIONS_MOST) {
                refuse(reader.kind() == T_END || beginsStatement(reader.kind()) ? 7 : 1);
            }
            current = addFunction(NONE);
            readStatements(0);
            if (reader.kind() != T_END) {
                refuse(1);
            }
            endFunction();
            if (code.instructionCount + noted > INSTRUCTIONS_MOST
                    || code.siteCount + siteCount > SITES_MOST) {
                refuse(7);
            }
        }

        private static boolean beginsExpression(int kind) {
            return kind >= T_NUMBER && kind <= T_NAME_FULL || kind == T_OPEN || kind == T_BRACKET
                    || kind == T_BRACE || kind == T_MINUS || kind == T_NOT || kind == T_FUN
                    || kind >= T_NEW && kind < T_KEY_END;
        }

        private static boolean beginsStatement(int kind) {
            return kind != T_BRACE && beginsExpression(kind) || kind == T_VAR || kind == T_IF
                    || kind == T_WHILE || kind == T_RETURN || kind == T_THROW || kind == T_TRY;
        }

        // Functions, names and instructions.

        private int addFunction(int around) {
            if (code.functionCount + functionCount >= FUNCTIONS_MOST) {
                refuse(7);
            }
            int f = code.functionCount + functionCount;
            functions[F_UNIT][f] = code.unitCount;
            functions[F_PARAMETERS][f] = 0;
            functions[F_VARIABLES][f] = 0;
            functions[F_INSTRUCTIONS][f] = 0;
            functions[F_AROUND][f] = around;
            functions[F_LATEST][f] = NONE;
            functionCount++;
            return f;
        }

        private void endFunction() {
            note(PUSH, 0, 0);
            note(RETURN, 0, 0);
            current = functions[F_AROUND][current];
        }

        private int note(int op, int a, int b) {
            if (noted == ops.length) {
                ops = Arrays.copyOf(ops, noted * 2);
                as = Arrays.copyOf(as, noted * 2);
                bs = Arrays.copyOf(bs, noted * 2);
                owners = Arrays.copyOf(owners, noted * 2);
            }
            ops[noted] = op;
            as[noted] = a;
            bs[noted] = b;
            owners[noted] = current;
            functions[F_INSTRUCTIONS][current]++;
            noted++;
            return noted - 1;
        }

        /** A site's kind and number of ES wait in A, its name in B. */
        private void noteSite(int kind, int name, int es) {
            note(SITE, kind + 16 * es, name);
            siteCount++;
        }

        /** Makes a jump go to the instruction that comes next. */
        private void aimHere(int jump) {
            as[jump] = here();
        }

        private int here() {
            return functions[F_INSTRUCTIONS][current];
        }

        private void take(int kind) {
            if (reader.kind() != kind) {
                refuse(1);
            }
            reader.next();
        }

        /** Takes a sign that holds what stands behind it. */
        private void open(int kind, int depth) {
            if (reader.kind() != kind) {
                refuse(1);
            }
            if (depth >= DEPTH_MOST) {
                refuse(4);
            }
            reader.next();
        }

        private void checkName() {
            if (reader.kind() != T_NAME && reader.kind() != T_NAME_FULL) {
                refuse(1);
            }
        }

        private int takeName() {
            checkName();
            if (reader.kind() == T_NAME_FULL) {
                refuse(7);
            }
            int name = reader.value();
            reader.next();
            return name;
        }

        /** Takes a name that is a variable of the function around, if that is not the unit's. */
        private int takeVariable() {
            checkName();
            int name = reader.value();
            if (functions[F_AROUND][current] != NONE && variableOf(current, name) == NONE) {
                if (functions[F_VARIABLES][current] == VARIABLES_MOST) {
                    refuse(7);
                }
                addVariable(current, name);
            }
            return takeName();
        }

        private int variableOf(int f, int name) {
            int v = functions[F_LATEST][f];
            for (int i = functions[F_VARIABLES][f] - 1; i >= 0; i--) {
                if (variables[V_NAME][v] == name) {
                    return i;
                }
                v = variables[V_BEFORE][v];
            }
            return NONE;
        }

        private void addVariable(int f, int name) {
            int v = variableCount;
            makeRoom(variables, v);
            variables[V_NAME][v] = name;
            variables[V_BEFORE][v] = functions[F_LATEST][f];
            functions[F_LATEST][f] = v;
            functions[F_VARIABLES][f]++;
            variableCount++;
        }

        /** Reads parameters and the { of a function's block, and goes into the function. */
        private void enterFunction(int f, int depth) {
            open(T_OPEN, depth);
            boolean more = reader.kind() != T_CLOSE;
            for (int i = 0; more && i < reader.count; i++) {
                checkName();
                if (variableOf(f, reader.value()) != NONE) {
                    refuse(3);
                }
                if (i == ES_MOST) {
                    refuse(6);
                }
                addVariable(f, takeName());
                more = reader.kind() == T_COMMA;
                if (more) {
                    reader.next();
                }
            }
            take(T_CLOSE);
            functions[F_PARAMETERS][f] = functions[F_VARIABLES][f];
            open(T_BRACE, depth);
            current = f;
        }

        private void leaveFunction() {
            take(T_BRACE_END);
            endFunction();
        }

        // Statements.

        private void readStatements(int depth) {
            for (int i = 0; i < reader.count; i++) {
                switch (reader.kind()) {
                    case T_END:
                    case T_BRACE_END:
                        return;
                    case T_VAR:
                        readVar(depth);
                        break;
                    case T_FUN:
                        readFun(depth);
                        break;
                    case T_IF:
                        readIf(depth);
                        break;
                    case T_WHILE:
                        readWhile(depth);
                        break;
                    case T_RETURN:
                    case T_THROW:
                        readLeaving(depth);
                        break;
                    case T_TRY:
                        readTry(depth);
                        break;
                    default:
                        readPlain(depth);
                        break;
                }
            }
        }

        private void readVar(int depth) {
            reader.next();
            int name = takeVariable();
            if (reader.kind() == T_ASSIGN) {
                reader.next();
                readExpression(depth);
                note(GSTORE, name, 0);
                note(POP, 0, 0);
            }
            take(T_SEMICOLON);
        }

        private void readFun(int depth) {
            int f = addFunction(current);
            reader.next();
            int name = takeVariable();
            enterFunction(f, depth);
            readStatements(depth + 1);
            leaveFunction();
            note(FUN, f, 0);
            note(GSTORE, name, 0);
            note(POP, 0, 0);
        }

        private void readIf(int depth) {
            // Each jump to the end tells in its A which one came ahead of it.
            int ends = NONE;
            boolean again = true;
            for (int i = 0; again && i < reader.count; i++) {
                again = false;
                reader.next();
                int skip = readCondition(depth);
                readBlock(depth);
                if (reader.kind() == T_ELSE) {
                    ends = note(JUMP, ends, 0);
                    aimHere(skip);
                    reader.next();
                    again = reader.kind() == T_IF;
                    if (!again) {
                        readBlock(depth);
                    }
                } else {
                    aimHere(skip);
                }
            }
            for (int i = 0; i < noted && ends != NONE; i++) {
                int ahead = as[ends];
                aimHere(ends);
                ends = ahead;
            }
        }

        /** Reads ( e ): the jump that is taken if it is not. */
        private int readCondition(int depth) {
            open(T_OPEN, depth);
            readExpression(depth + 1);
            take(T_CLOSE);
            return note(JUMP_IF_NOT, 0, 0);
        }

        private void readBlock(int depth) {
            open(T_BRACE, depth);
            readStatements(depth + 1);
            take(T_BRACE_END);
        }

        private void readWhile(int depth) {
            reader.next();
            int back = here();
            int skip = readCondition(depth);
            readBlock(depth);
            note(JUMP, back, 0);
            aimHere(skip);
        }

        private void readLeaving(int depth) {
            boolean returns = reader.kind() == T_RETURN;
            reader.next();
            if (returns && reader.kind() == T_SEMICOLON) {
                note(PUSH, 0, 0);
            } else {
                readExpression(depth);
            }
            take(T_SEMICOLON);
            note(returns ? RETURN : THROW, 0, 0);
        }

        private void readTry(int depth) {
            reader.next();
            int begin = note(TRY, 0, 0);
            readBlock(depth);
            note(END, 0, 0);
            int skip = note(JUMP, 0, 0);
            aimHere(begin);
            take(T_CATCH);
            open(T_OPEN, depth);
            note(GSTORE, takeVariable(), 0);
            note(POP, 0, 0);
            take(T_CLOSE);
            readBlock(depth);
            aimHere(skip);
        }

        private void readPlain(int depth) {
            if (reader.kind() == T_BRACE) {
                refuse(1);
            }
            readExpression(depth);
            take(T_SEMICOLON);
            note(POP, 0, 0);
        }

        // Expressions. Operators wait in a row of their own, so that a level of nesting takes few
        // calls within one another.

        private void readExpression(int depth) {
            int base = waitingSize;
            boolean more = true;
            for (int i = 0; more && i < reader.count; i++) {
                int deeper = readFronts(depth);
                readOperand(deeper);
                settleFronts(deeper - depth);
                int kind = reader.kind();
                if (kind == T_ASSIGN) {
                    readAssigned(depth, base);
                }
                int level = levelOf(kind);
                more = level > 0;
                if (more) {
                    settle(base, level);
                    int jump = kind == T_OR || kind == T_AND ? note(kind == T_OR ? OR : AND, 0, 0) : 0;
                    await(kind, jump);
                    reader.next();
                }
            }
            settle(base, 1);
            target = NO_TARGET;
        }

        /** Reads each - and ! in front: how deep what stands behind them is. */
        private int readFronts(int depth) {
            int deeper = depth;
            for (int i = 0; i < reader.count; i++) {
                int kind = reader.kind();
                if (kind != T_MINUS && kind != T_NOT) {
                    break;
                }
                open(kind, deeper);
                await(kind, 0);
                deeper++;
            }
            return deeper;
        }

        private void settleFronts(int fronts) {
            for (int i = 0; i < fronts; i++) {
                waitingSize -= 2;
                note(waiting[waitingSize] == T_MINUS ? MINUS : NOT, 0, 0);
                target = NO_TARGET;
            }
        }

        private void await(int kind, int jump) {
            if (waitingSize + 2 > waiting.length) {
                refuse(4);
            }
            waiting[waitingSize] = kind;
            waiting[waitingSize + 1] = jump;
            waitingSize += 2;
        }

        /** Ends the operators down to a base that bind at least as close as a level. */
        private void settle(int base, int level) {
            while (waitingSize > base && levelOf(waiting[waitingSize - 2]) >= level) {
                waitingSize -= 2;
                int kind = waiting[waitingSize];
                if (kind == T_OR || kind == T_AND) {
                    aimHere(waiting[waitingSize + 1]);
                } else {
                    note(operatorOf(kind), 0, 0);
                }
            }
        }

        private static int levelOf(int kind) {
            switch (kind) {
                case T_OR:
                    return 1;
                case T_AND:
                    return 2;
                case T_EQUAL:
                case T_UNEQUAL:
                    return 3;
                case T_LESS:
                case T_AT_MOST:
                case T_MORE:
                case T_AT_LEAST:
                    return 4;
                case T_PLUS:
                case T_MINUS:
                    return 5;
                case T_TIMES:
                case T_OVER:
                case T_REST:
                    return 6;
                default:
                    return 0;
            }
        }

        private static int operatorOf(int kind) {
            switch (kind) {
                case T_EQUAL:
                    return EQUAL;
                case T_UNEQUAL:
                    return UNEQUAL;
                case T_LESS:
                    return LESS;
                case T_AT_MOST:
                    return AT_MOST;
                case T_MORE:
                    return MORE;
                case T_AT_LEAST:
                    return AT_LEAST;
                default:
                    return ADD + kind - T_PLUS;
            }
        }

        /** Reads = and what stands behind it; the instruction that read the target goes. */
        private void readAssigned(int depth, int base) {
            if (target == NO_TARGET || waitingSize > base) {
                refuse(2);
            }
            open(T_ASSIGN, depth);
            int written = target;
            noted--;
            functions[F_INSTRUCTIONS][current]--;
            int name = written == NAME_TARGET ? as[noted] : bs[noted];
            if (written != NAME_TARGET) {
                siteCount--;
            }
            readExpression(depth + 1);
            if (written == NAME_TARGET) {
                note(GSTORE, name, 0);
            } else {
                noteSite(written == PROPERTY_TARGET ? SET : SET_ELEMENT, name, 0);
            }
        }

        /** Reads a behind; of new the maker's first part and all up to its ES stand ahead. */
        private void readOperand(int depth) {
            boolean making = reader.kind() == T_NEW;
            if (making) {
                reader.next();
            }
            readFirst(depth);
            for (int i = 0; i < reader.count; i++) {
                int kind = reader.kind();
                if (kind == T_DOT) {
                    readDot(depth, making);
                } else if (kind == T_BRACKET) {
                    open(T_BRACKET, depth);
                    readExpression(depth + 1);
                    take(T_BRACKET_END);
                    noteSite(GET_ELEMENT, NONE, 0);
                    target = ELEMENT_TARGET;
                } else if (kind == T_OPEN) {
                    noteSite(making ? NEW : CALL, NONE, readEs(depth));
                    reader.next();
                    making = false;
                    target = NO_TARGET;
                } else {
                    break;
                }
            }
            if (making) {
                refuse(1);
            }
        }

        private void readDot(int depth, boolean making) {
            reader.next();
            int name = takeName();
            if (reader.kind() == T_OPEN && !making) {
                noteSite(METHOD, name, readEs(depth));
                reader.next();
                target = NO_TARGET;
            } else {
                noteSite(GET, name, 0);
                target = PROPERTY_TARGET;
            }
        }

        /** Reads ( ES and stays at the ) behind them. */
        private int readEs(int depth) {
            open(T_OPEN, depth);
            int es = 0;
            boolean more = reader.kind() != T_CLOSE;
            for (int i = 0; more && i < reader.count; i++) {
                if (es == ES_MOST) {
                    refuseNinth(depth + 1);
                }
                readExpression(depth + 1);
                es++;
                more = reader.kind() == T_COMMA;
                if (more) {
                    reader.next();
                }
            }
            if (reader.kind() != T_CLOSE) {
                refuse(1);
            }
            return es;
        }

        /** Of all that is wrong with the first token of a ninth of the ES the least counts. */
        private void refuseNinth(int depth) {
            int kind = reader.kind();
            if (!beginsExpression(kind)) {
                refuse(1);
            }
            boolean holds = kind == T_OPEN || kind == T_BRACKET || kind == T_BRACE
                    || kind == T_MINUS || kind == T_NOT;
            refuse(holds && depth >= DEPTH_MOST ? 4 : 6);
        }

        private void readFirst(int depth) {
            int kind = reader.kind();
            target = NO_TARGET;
            switch (kind) {
                case T_NAME:
                case T_NAME_FULL:
                    note(GLOAD, takeName(), 0);
                    target = NAME_TARGET;
                    break;
                case T_OPEN:
                    open(T_OPEN, depth);
                    readExpression(depth + 1);
                    take(T_CLOSE);
                    break;
                case T_FUN:
                    int f = addFunction(current);
                    reader.next();
                    enterFunction(f, depth);
                    readStatements(depth + 1);
                    leaveFunction();
                    note(FUN, f, 0);
                    target = NO_TARGET;
                    break;
                case T_BRACKET:
                    readList(depth);
                    break;
                case T_BRACE:
                    readObject(depth);
                    break;
                default:
                    if (kind >= T_BUILTIN && kind < T_KEY_END) {
                        readBuiltin(depth);
                    } else {
                        readConstant(kind);
                    }
                    break;
            }
        }

        private void readConstant(int kind) {
            switch (kind) {
                case T_NUMBER:
                    note(PUSH, PUSH_NUMBER, reader.value());
                    break;
                case T_TEXT:
                    note(PUSH, PUSH_TEXT, reader.value());
                    break;
                case T_TEXT_FULL:
                    refuse(7);
                    break;
                case T_THIS:
                    note(THIS, 0, 0);
                    break;
                case T_NULL:
                    note(PUSH, 0, 0);
                    break;
                case T_TRUE:
                    note(PUSH, 2, 0);
                    break;
                case T_FALSE:
                    note(PUSH, 1, 0);
                    break;
                default:
                    refuse(1);
                    break;
            }
            reader.next();
        }

        private void readBuiltin(int depth) {
            int builtin = reader.kind() - T_BUILTIN;
            reader.next();
            if (readEs(depth) != WANTS[builtin]) {
                refuse(5);
            }
            reader.next();
            note(BUILTIN, builtin, 0);
        }

        private void readList(int depth) {
            open(T_BRACKET, depth);
            int size = 0;
            boolean more = reader.kind() != T_BRACKET_END;
            for (int i = 0; more && i < reader.count; i++) {
                readExpression(depth + 1);
                size++;
                more = reader.kind() == T_COMMA;
                if (more) {
                    reader.next();
                }
            }
            take(T_BRACKET_END);
            note(LIST, size, 0);
        }

        private void readObject(int depth) {
            open(T_BRACE, depth);
            note(OBJECT, 0, 0);
            boolean more = reader.kind() != T_BRACE_END;
            for (int i = 0; more && i < reader.count; i++) {
                int name = takeName();
                take(T_COLON);
                note(DUP, 0, 0);
                readExpression(depth + 1);
                noteSite(SET, name, 0);
                note(POP, 0, 0);
                more = reader.kind() == T_COMMA;
                if (more) {
                    reader.next();
                }
            }
            take(T_BRACE_END);
        }

        // Putting a unit in order.

        /** Adds what was read to the code: the unit's number. */
        int commit() {
            int unit = code.unitCount;
            int first = code.functionCount;
            int place = code.instructionCount;
            code.units[unit] = first;
            code.unitCount++;
            code.functionCount += functionCount;
            code.addInstructions(noted);
            for (int f = first; f < code.functionCount; f++) {
                functions[F_FIRST][f] = place;
                place += functions[F_INSTRUCTIONS][f];
                functions[F_INSTRUCTIONS][f] = 0;
            }
            for (int i = 0; i < noted; i++) {
                int f = owners[i];
                int at = functions[F_FIRST][f] + functions[F_INSTRUCTIONS][f];
                functions[F_INSTRUCTIONS][f]++;
                code.ops[at] = ops[i];
                code.as[at] = as[i];
                code.bs[at] = bs[i];
            }
            for (int f = first; f < code.functionCount; f++) {
                finish(f);
            }
            return unit;
        }

        /** Numbers the sites of a function, and finds whose variables its names are. */
        private void finish(int f) {
            functions[F_SITE][f] = code.siteCount;
            for (int i = 0; i < functions[F_INSTRUCTIONS][f]; i++) {
                int at = functions[F_FIRST][f] + i;
                int op = code.ops[at];
                if (op == SITE) {
                    int packed = code.as[at];
                    code.as[at] = code.addSite(packed & 15, code.bs[at], packed >> 4, f, i);
                    code.bs[at] = 0;
                } else if (op == GLOAD || op == GSTORE) {
                    resolve(f, at);
                }
            }
            functions[F_SITES][f] = code.siteCount - functions[F_SITE][f];
        }

        private void resolve(int f, int at) {
            int name = code.as[at];
            int around = f;
            for (int out = 0; around != NONE && out <= functionCount; out++) {
                int variable = variableOf(around, name);
                if (variable != NONE) {
                    code.ops[at] = code.ops[at] == GLOAD ? LOAD : STORE;
                    code.as[at] = out;
                    code.bs[at] = variable;
                    return;
                }
                around = functions[F_AROUND][around];
            }
        }
    }

    /** A row of values: a pile, the globals, the cells of all things and calls. */
    private static final class Row {
        byte[] kinds;
        long[] bits;
        int size;

        Row(int room) {
            kinds = new byte[room];
            bits = new long[room];
        }

        void add(int kind, long value) {
            if (size == kinds.length) {
                kinds = Arrays.copyOf(kinds, size * 2);
                bits = Arrays.copyOf(bits, size * 2);
            }
            kinds[size] = (byte) kind;
            bits[size] = value;
            size++;
        }

        void put(int at, int kind, long value) {
            kinds[at] = (byte) kind;
            bits[at] = value;
        }
    }

    /** The things, their shapes, what was printed and traced, and what is left of the memory. */
    private static final class Heap {
        final Words words;
        Host host = new Host();
        final int[][] things = new int[T_WIDTH][64];
        int thingCount;
        final int[][] calls = new int[A_WIDTH][64];
        int callCount;
        /** All properties, elements, fields and VARIABLES: each thing and call has a part of it. */
        final Row cells = new Row(256);
        final int[][] shapes = new int[H_WIDTH][64];
        int shapeCount;
        private final int[] shapeHeads = new int[1024];
        private final int[] used = new int[LIFE_MOST.length];
        int changes;
        byte[] output = new byte[256];
        int outputSize;
        int[] trace = new int[256];
        int traceSize;
        final Row globals = new Row(64);
        private final int[] order = new int[PROPERTIES_MOST + 1];
        /** What a value that is no text prints stands at the end of this. */
        private final byte[] scratch = new byte[64];
        private int shownStart;

        Heap(Words words) {
            this.words = words;
            addShape(NONE, NONE, NONE);
        }

        void clear(Host told) {
            used[L_CHOICES] += host.keptCount;
            told.keptMost = LIFE_MOST[L_CHOICES] - used[L_CHOICES];
            host = told;
            thingCount = 0;
            callCount = 0;
            cells.size = 0;
            shapeCount = 0;
            changes = 0;
            outputSize = 0;
            traceSize = 0;
            globals.size = 0;
            Arrays.fill(shapeHeads, 0);
            addShape(NONE, NONE, NONE);
        }

        boolean hasRoom(int what, int more) {
            return used[what] + more <= LIFE_MOST[what];
        }

        boolean hasTextRoom(int bytes) {
            return hasRoom(L_TEXTS, 1) && hasRoom(L_BYTES, bytes);
        }

        void useText(int bytes) {
            used[L_TEXTS]++;
            used[L_BYTES] += bytes;
        }

        // Things and calls.

        /** A thing with some cells, none in use yet; of is the function of a fun, or a class. */
        int addThing(int kind, int shape, int of, int room) {
            int k = thingCount;
            makeRoom(things, k);
            things[T_KIND][k] = kind;
            things[T_SHAPE][k] = shape;
            things[T_OF][k] = of;
            things[T_EPOCH][k] = NONE;
            things[T_CHANGED][k] = 0;
            things[T_BARE][k] = NONE;
            things[T_START][k] = takeCells(room);
            things[T_SIZE][k] = 0;
            things[T_ROOM][k] = room;
            things[T_AROUND][k] = NONE;
            thingCount++;
            used[L_MADE]++;
            return k;
        }

        /** Whether an object with a prototype can be made. */
        boolean hasObjectRoom(int proto) {
            boolean isNew = proto != NONE && things[T_BARE][proto] == NONE;
            return hasRoom(L_MADE, 1) && (!isNew || hasRoom(L_SHAPES, 1));
        }

        /** A call with cells for its VARIABLES. */
        int addCall(int around, int variables) {
            int c = callCount;
            makeRoom(calls, c);
            calls[A_START][c] = takeCells(variables);
            calls[A_AROUND][c] = around;
            callCount++;
            used[L_MADE]++;
            used[L_VALUES] += variables;
            return c;
        }

        /** Where cells that nobody has begin. */
        private int takeCells(int more) {
            int start = cells.size;
            cells.size += more;
            if (cells.size > cells.kinds.length) {
                int room = Math.max(cells.size, cells.kinds.length * 2);
                cells.kinds = Arrays.copyOf(cells.kinds, room);
                cells.bits = Arrays.copyOf(cells.bits, room);
            }
            return start;
        }

        /** Adds a property, element or field to a thing. */
        void addValue(int k, int kind, long bits) {
            int size = things[T_SIZE][k];
            int start = things[T_START][k];
            if (size == things[T_ROOM][k]) {
                if (start + size == cells.size) {
                    // Behind it nothing lies: it gets the next cell, and stays where it is.
                    takeCells(1);
                    things[T_ROOM][k]++;
                } else {
                    int room = Math.max(4, size * 2);
                    int to = takeCells(room);
                    System.arraycopy(cells.kinds, start, cells.kinds, to, size);
                    System.arraycopy(cells.bits, start, cells.bits, to, size);
                    things[T_START][k] = to;
                    things[T_ROOM][k] = room;
                    start = to;
                }
            }
            cells.put(start + size, kind, bits);
            things[T_SIZE][k]++;
            used[L_VALUES]++;
        }

        void dropValue(int k, int which) {
            int at = things[T_START][k] + which;
            int behind = things[T_SIZE][k] - which - 1;
            System.arraycopy(cells.kinds, at + 1, cells.kinds, at, behind);
            System.arraycopy(cells.bits, at + 1, cells.bits, at, behind);
            things[T_SIZE][k]--;
        }

        /** Notes that a thing got a property, lost one or was turned. */
        void noteChange(int k) {
            if (things[T_EPOCH][k] != NONE) {
                things[T_EPOCH][k]++;
                changes++;
                things[T_CHANGED][k] = changes;
            }
        }

        // Shapes.

        private static int shapeHead(int before, int name) {
            int mixed = before * 1021 + name;
            return (mixed ^ mixed >>> 10) & 1023;
        }

        /** Adds a shape; the table has room for it. */
        private int addShape(int proto, int before, int name) {
            int s = shapeCount;
            shapes[H_PROTO][s] = proto;
            shapes[H_NAME][s] = name;
            shapes[H_BEFORE][s] = before;
            shapes[H_SIZE][s] = before == NONE ? 0 : shapes[H_SIZE][before] + 1;
            if (before != NONE) {
                int head = shapeHead(before, name);
                shapes[H_NEXT][s] = shapeHeads[head];
                shapeHeads[head] = s + 1;
            }
            shapeCount++;
            return s;
        }

        /** The shape with a name more, NONE if it was not made yet. */
        int shapeBehind(int shape, int name) {
            int s = shapeHeads[shapeHead(shape, name)] - 1;
            for (int i = 0; i < shapeCount && s >= 0; i++) {
                if (shapes[H_BEFORE][s] == shape && shapes[H_NAME][s] == name) {
                    return s;
                }
                s = shapes[H_NEXT][s] - 1;
            }
            return NONE;
        }

        /** The shape with a name more, made if it is wanted first; NONE without room. */
        int reachShape(int shape, int name) {
            int behind = shapeBehind(shape, name);
            if (behind == NONE && hasRoom(L_SHAPES, 1)) {
                used[L_SHAPES]++;
                makeRoom(shapes, shapeCount);
                behind = addShape(shapes[H_PROTO][shape], shape, name);
            }
            return behind;
        }

        /** The shape of a prototype without names; there is room for it. */
        int bareShape(int proto) {
            if (proto == NONE) {
                return 0;
            }
            if (things[T_BARE][proto] == NONE) {
                used[L_SHAPES]++;
                makeRoom(shapes, shapeCount);
                things[T_BARE][proto] = addShape(proto, NONE, NONE);
                things[T_EPOCH][proto] = 0;
            }
            return things[T_BARE][proto];
        }

        int protoOf(int k) {
            return shapes[H_PROTO][things[T_SHAPE][k]];
        }

        /** The shape of a prototype and a thing's names but one; NONE without room. */
        int reshaped(int k, int proto, int without) {
            int from = things[T_SHAPE][k];
            int size = shapes[H_SIZE][from];
            for (int i = size - 1; i >= 0; i--) {
                order[i] = shapes[H_NAME][from];
                from = shapes[H_BEFORE][from];
            }
            int known = proto == NONE ? 0 : things[T_BARE][proto];
            int missing = known == NONE ? 1 : 0;
            for (int i = 0; i < size; i++) {
                if (i != without) {
                    known = known == NONE ? NONE : shapeBehind(known, order[i]);
                    missing += known == NONE ? 1 : 0;
                }
            }
            if (!hasRoom(L_SHAPES, missing)) {
                return NONE;
            }
            int shape = bareShape(proto);
            for (int i = 0; i < size; i++) {
                if (i != without) {
                    shape = reachShape(shape, order[i]);
                }
            }
            return shape;
        }

        /** Which property of a shape has a name, or NONE. */
        int indexIn(int shape, int name) {
            int s = shape;
            for (int i = shapes[H_SIZE][shape] - 1; i >= 0; i--) {
                if (shapes[H_NAME][s] == name) {
                    return i;
                }
                s = shapes[H_BEFORE][s];
            }
            return NONE;
        }

        int nameIn(int shape, int index) {
            int s = shape;
            for (int i = shapes[H_SIZE][shape] - 1; i > index; i--) {
                s = shapes[H_BEFORE][s];
            }
            return shapes[H_NAME][s];
        }

        /** Who has a property: the thing itself, or the nearest of its prototypes, or NONE. */
        int holderOf(int k, int name) {
            int up = k;
            for (int i = 0; i <= thingCount && up != NONE; i++) {
                if (indexIn(things[T_SHAPE][up], name) != NONE) {
                    return up;
                }
                up = protoOf(up);
            }
            return NONE;
        }

        /**
         * Whether a prototype gone through by a lookup from a shape up to a holder (NONE: all) has
         * changed since. As long as one has not, the one above it is the same as then, so going up
         * again meets the same ones.
         */
        boolean isStale(int shape, int holder, int since) {
            if (since == NONE || since == changes) {
                return false;
            }
            int up = shapes[H_PROTO][shape];
            for (int i = 0; i < thingCount && up != NONE; i++) {
                if (things[T_CHANGED][up] > since) {
                    return true;
                }
                up = up == holder ? NONE : protoOf(up);
            }
            return false;
        }

        // Values.

        int classOf(int kind, long bits) {
            switch (kind) {
                case K_NULL:
                    return VOID;
                case K_BOOL:
                    return BIG_BOOL;
                case K_NUMBER:
                    return bits == (int) bits ? BIG_INT : BIG_LONG;
                case K_TEXT:
                    return TEXT;
                case K_INSTANCE:
                    return CLASS_TYPES + things[T_OF][(int) bits];
                default:
                    return ANY;
            }
        }

        /** What a value prints: a slice of the bytes that shownIn() tells. */
        long show(int kind, long bits) {
            shownStart = scratch.length;
            switch (kind) {
                case K_NULL:
                    showText("null");
                    break;
                case K_BOOL:
                    showText(bits == 0 ? "false" : "true");
                    break;
                case K_NUMBER:
                    showNumber(bits);
                    break;
                case K_TEXT:
                    return bits;
                case K_OBJECT:
                    showText("{}");
                    break;
                case K_FUN:
                    showText("fun");
                    break;
                case K_LIST:
                    showText("[]");
                    break;
                case K_INSTANCE:
                    showNumber(bits);
                    showText("@");
                    showClass(things[T_OF][(int) bits]);
                    break;
                default:
                    showClass((int) bits);
                    break;
            }
            return slice(shownStart, scratch.length - shownStart);
        }

        private byte[] shownIn(int kind) {
            return kind == K_TEXT ? words.pool : scratch;
        }

        // These three put something ahead of what stands in the scratch row already.

        private void showText(String text) {
            shownStart -= text.length();
            for (int i = 0; i < text.length(); i++) {
                scratch[shownStart + i] = (byte) text.charAt(i);
            }
        }

        private void showNumber(long number) {
            long rest = number;
            for (int i = 0; i < 20 && (i == 0 || rest != 0); i++) {
                shownStart--;
                scratch[shownStart] = (byte) ('0' + Math.abs((int) (rest % 10)));
                rest /= 10;
            }
            if (number < 0) {
                shownStart--;
                scratch[shownStart] = '-';
            }
        }

        private void showClass(int k) {
            int word = host.types[C_WORD][k];
            int size = host.words.sizes[word];
            shownStart -= size;
            System.arraycopy(host.words.pool, host.words.starts[word], scratch, shownStart, size);
        }

        /** Adds what a value prints to the bytes of all texts. */
        void appendShown(int kind, long bits) {
            long shown = show(kind, bits);
            words.append(shownIn(kind), sliceStart(shown), sliceSize(shown));
        }

        /** Prints a value, and a 10; false if there is no room for it. */
        boolean print(int kind, long bits) {
            long shown = show(kind, bits);
            int size = sliceSize(shown);
            int end = outputSize + size + 1;
            if (end > OUTPUT_MOST) {
                return false;
            }
            if (end > output.length) {
                output = Arrays.copyOf(output, Math.max(end, output.length * 2));
            }
            System.arraycopy(shownIn(kind), sliceStart(shown), output, outputSize, size);
            output[end - 1] = 10;
            outputSize = end;
            return true;
        }

        void addTrace(int member, int arguments) {
            if (traceSize + 2 > trace.length) {
                trace = Arrays.copyOf(trace, trace.length * 2);
            }
            trace[traceSize] = member;
            trace[traceSize + 1] = arguments;
            traceSize += 2;
        }
    }

    /** A task: its pile, its calls within one another, and what each instruction does. */
    private static final class Task {
        private final Heap heap;
        private final Code code;
        private final Linker linker;
        final Row pile = new Row(64);
        int calls;
        final int[] functions = new int[CALLS_MOST];
        final int[] nexts = new int[CALLS_MOST];
        /** Which of all calls made each one is. */
        private final int[] numbers = new int[CALLS_MOST];
        private final byte[] thisKinds = new byte[CALLS_MOST];
        private final long[] thisBits = new long[CALLS_MOST];
        private final boolean[] ofNew = new boolean[CALLS_MOST];
        /** Of each TRY the calls there were, the instruction to go on at, the size of the pile. */
        private int[] tries = new int[48];
        private int triesSize;
        int state = NOT_STARTED;
        int endKind;
        long endBits;
        int problem;

        Task(Heap heap, Code code, Linker linker) {
            this.heap = heap;
            this.code = code;
            this.linker = linker;
        }

        void clear() {
            state = NOT_STARTED;
            calls = 0;
            pile.size = 0;
            triesSize = 0;
        }

        void begin(int function) {
            clear();
            state = RUNS;
            push(function, heap.addCall(NONE, 0), K_NULL, 0, false);
        }

        private void push(int function, int number, int kind, long bits, boolean isNew) {
            functions[calls] = function;
            nexts[calls] = 0;
            numbers[calls] = number;
            thisKinds[calls] = (byte) kind;
            thisBits[calls] = bits;
            ofNew[calls] = isNew;
            calls++;
        }

        /** Does one instruction; false if there is no memory for it. */
        boolean step() {
            if (calls < 1) {
                return false;
            }
            problem = FINE;
            int at = code.functions[F_FIRST][functions[calls - 1]] + nexts[calls - 1];
            int op = code.ops[at];
            int a = code.as[at];
            if (op == SITE) {
                linker.aim(this, a);
                int entry = problem == FINE ? linker.held() : NONE;
                if (entry == NONE && problem == FINE) {
                    entry = linker.look();
                }
                if (problem == FINE) {
                    linker.act(entry);
                }
            } else if (pile.size >= PILE_MOST && pushes(op, a)) {
                problem = 11;
            } else if (op >= ADD && op <= AT_LEAST) {
                operate(op);
            } else if (op == BUILTIN) {
                callBuiltin(a);
            } else {
                perform(op, a, code.bs[at]);
            }
            if (problem == NO_MEMORY) {
                state = STOPPED;
                return false;
            }
            if (problem != FINE) {
                raise(K_NUMBER, problem);
            }
            return true;
        }

        private static boolean pushes(int op, int a) {
            return op == PUSH || op == LOAD || op == GLOAD || op == DUP || op == FUN || op == OBJECT
                    || op == THIS || op == LIST && a == 0;
        }

        private void perform(int op, int a, int b) {
            int top = pile.size - 1;
            switch (op) {
                case PUSH:
                    pushConstant(a, b);
                    break;
                case LOAD:
                    int from = variablesOut(a) + b;
                    give(0, heap.cells.kinds[from], heap.cells.bits[from]);
                    break;
                case STORE:
                    heap.cells.put(variablesOut(a) + b, pile.kinds[top], pile.bits[top]);
                    nexts[calls - 1]++;
                    break;
                case GLOAD:
                    loadGlobal(a);
                    break;
                case GSTORE:
                    storeGlobal(a);
                    break;
                case POP:
                    pile.size--;
                    nexts[calls - 1]++;
                    break;
                case DUP:
                    give(0, pile.kinds[top], pile.bits[top]);
                    break;
                case FUN:
                    makeFun(a);
                    break;
                case LIST:
                    makeList(a);
                    break;
                case OBJECT:
                    makeObject(0, NONE);
                    break;
                case THIS:
                    give(0, thisKinds[calls - 1], thisBits[calls - 1]);
                    break;
                default:
                    goOn(op, a);
                    break;
            }
        }

        /** The instructions that say where to go on. */
        private void goOn(int op, int a) {
            int top = pile.size - 1;
            int call = calls - 1;
            switch (op) {
                case JUMP:
                    nexts[call] = a;
                    break;
                case JUMP_IF_NOT:
                    nexts[call] = isNot(top) ? a : nexts[call] + 1;
                    pile.size--;
                    break;
                case OR:
                case AND:
                    if (isNot(top) == (op == AND)) {
                        nexts[call] = a;
                    } else {
                        pile.size--;
                        nexts[call]++;
                    }
                    break;
                case RETURN:
                    comeBack();
                    break;
                case THROW:
                    raise(pile.kinds[top], pile.bits[top]);
                    break;
                case TRY:
                    noteTry(a);
                    nexts[call]++;
                    break;
                default:
                    triesSize = Math.max(0, triesSize - 3);
                    nexts[call]++;
                    break;
            }
        }

        private boolean isNot(int at) {
            return pile.kinds[at] == K_NULL || pile.kinds[at] == K_BOOL && pile.bits[at] == 0;
        }

        /** Some values of the pile go, another one comes, and the next instruction's turn is. */
        void give(int taken, int kind, long bits) {
            pile.size -= taken;
            pile.add(kind, bits);
            nexts[calls - 1]++;
        }

        private void pushConstant(int a, int b) {
            if (a == PUSH_NUMBER) {
                give(0, K_NUMBER, b);
            } else if (a == PUSH_TEXT) {
                give(0, K_TEXT, heap.words.sliceOf(heap.words.texts[b]));
            } else {
                give(0, a == 0 ? K_NULL : K_BOOL, a == 2 ? 1 : 0);
            }
        }

        /** Where the VARIABLES of the function that is so much further out begin. */
        private int variablesOut(int out) {
            int call = numbers[calls - 1];
            for (int i = 0; i < out && heap.calls[A_AROUND][call] != NONE; i++) {
                call = heap.calls[A_AROUND][call];
            }
            return heap.calls[A_START][call];
        }

        private void loadGlobal(int name) {
            Row globals = heap.globals;
            if (name >= globals.size || globals.kinds[name] == K_UNSET) {
                problem = 10;
            } else {
                give(0, globals.kinds[name], globals.bits[name]);
            }
        }

        private void storeGlobal(int name) {
            Row globals = heap.globals;
            for (int i = globals.size; i <= name; i++) {
                globals.add(K_UNSET, 0);
            }
            globals.put(name, pile.kinds[pile.size - 1], pile.bits[pile.size - 1]);
            nexts[calls - 1]++;
        }

        // Making things.

        private void makeFun(int function) {
            if (!heap.hasRoom(L_MADE, 1)) {
                problem = NO_MEMORY;
                return;
            }
            int fun = heap.addThing(K_FUN, 0, function, 0);
            heap.things[T_AROUND][fun] = numbers[calls - 1];
            give(0, K_FUN, fun);
        }

        private void makeList(int size) {
            if (!heap.hasRoom(L_MADE, 1) || !heap.hasRoom(L_VALUES, size)) {
                problem = NO_MEMORY;
                return;
            }
            int list = heap.addThing(K_LIST, NONE, NONE, size);
            int first = pile.size - size;
            for (int i = 0; i < size; i++) {
                heap.addValue(list, pile.kinds[first + i], pile.bits[first + i]);
            }
            give(size, K_LIST, list);
        }

        private void makeObject(int taken, int proto) {
            if (!heap.hasObjectRoom(proto)) {
                problem = NO_MEMORY;
                return;
            }
            int shape = heap.bareShape(proto);
            give(taken, K_OBJECT, heap.addThing(K_OBJECT, shape, NONE, 0));
        }

        // Calls.

        /** Calls a fun: what lies on the pile from a place on goes, behind that the ES. */
        void enter(int fun, int place, int kind, long bits, boolean isNew) {
            int function = heap.things[T_OF][fun];
            int size = code.functions[F_VARIABLES][function];
            int es = Math.min(pile.size - place - 1, code.functions[F_PARAMETERS][function]);
            int call = heap.addCall(heap.things[T_AROUND][fun], size);
            int start = heap.calls[A_START][call];
            for (int i = 0; i < size; i++) {
                if (i < es) {
                    heap.cells.put(start + i, pile.kinds[place + 1 + i], pile.bits[place + 1 + i]);
                } else {
                    heap.cells.put(start + i, K_NULL, 0);
                }
            }
            pile.size = place;
            nexts[calls - 1]++;
            push(function, call, kind, bits, isNew);
        }

        /** Whether a fun can be called, and as many things be made besides. */
        boolean canEnter(int fun, int things) {
            int size = code.functions[F_VARIABLES][heap.things[T_OF][fun]];
            if (calls >= CALLS_MOST) {
                problem = 11;
            } else if (!heap.hasRoom(L_MADE, 1 + things) || !heap.hasRoom(L_VALUES, size)) {
                problem = NO_MEMORY;
            }
            return problem == FINE;
        }

        private void comeBack() {
            int call = calls - 1;
            pile.size--;
            int kind = pile.kinds[pile.size];
            long bits = pile.bits[pile.size];
            if (ofNew[call] && kind != K_OBJECT) {
                kind = thisKinds[call];
                bits = thisBits[call];
            }
            while (triesSize > 0 && tries[triesSize - 3] == calls) {
                triesSize -= 3;
            }
            calls--;
            if (calls == 0) {
                end(DONE, kind, bits);
            } else {
                pile.add(kind, bits);
            }
        }

        private void end(int how, int kind, long bits) {
            clear();
            state = how;
            endKind = kind;
            endBits = bits;
        }

        private void noteTry(int where) {
            if (triesSize + 3 > tries.length) {
                tries = Arrays.copyOf(tries, tries.length * 2);
            }
            tries[triesSize] = calls;
            tries[triesSize + 1] = where;
            tries[triesSize + 2] = pile.size;
            triesSize += 3;
        }

        private void raise(int kind, long bits) {
            if (triesSize < 3) {
                end(FAILED, kind, bits);
                return;
            }
            triesSize -= 3;
            calls = tries[triesSize];
            nexts[calls - 1] = tries[triesSize + 1];
            pile.size = tries[triesSize + 2];
            pile.add(kind, bits);
        }

        // Operators.

        private void operate(int op) {
            int top = pile.size - 1;
            if (op == NOT) {
                give(1, K_BOOL, isNot(top) ? 1 : 0);
            } else if (op == MINUS) {
                if (pile.kinds[top] == K_NUMBER) {
                    give(1, K_NUMBER, -pile.bits[top]);
                } else {
                    problem = 1;
                }
            } else if (op == EQUAL || op == UNEQUAL) {
                give(2, K_BOOL, areEqual(top - 1, top) == (op == EQUAL) ? 1 : 0);
            } else if (pile.kinds[top] == K_NUMBER && pile.kinds[top - 1] == K_NUMBER) {
                operateOnNumbers(op, pile.bits[top - 1], pile.bits[top]);
            } else if (op == ADD) {
                join(top - 1, top);
            } else if (op >= LESS && pile.kinds[top] == K_TEXT && pile.kinds[top - 1] == K_TEXT) {
                int order = heap.words.compare(pile.bits[top - 1], pile.bits[top]);
                give(2, K_BOOL, isOrdered(op, order) ? 1 : 0);
            } else {
                problem = 1;
            }
        }

        private boolean areEqual(int one, int other) {
            if (pile.kinds[one] != pile.kinds[other]) {
                return false;
            }
            if (pile.kinds[one] == K_TEXT) {
                return heap.words.compare(pile.bits[one], pile.bits[other]) == 0;
            }
            return pile.bits[one] == pile.bits[other];
        }

        private static boolean isOrdered(int op, int order) {
            switch (op) {
                case LESS:
                    return order < 0;
                case AT_MOST:
                    return order <= 0;
                case MORE:
                    return order > 0;
                default:
                    return order >= 0;
            }
        }

        private void operateOnNumbers(int op, long x, long y) {
            switch (op) {
                case ADD:
                    give(2, K_NUMBER, x + y);
                    break;
                case SUBTRACT:
                    give(2, K_NUMBER, x - y);
                    break;
                case MULTIPLY:
                    give(2, K_NUMBER, x * y);
                    break;
                case DIVIDE:
                case REMAINDER:
                    if (y == 0) {
                        problem = 2;
                    } else {
                        give(2, K_NUMBER, op == DIVIDE ? x / y : x % y);
                    }
                    break;
                default:
                    give(2, K_BOOL, isOrdered(op, Long.compare(x, y)) ? 1 : 0);
                    break;
            }
        }

        /** Joins what a text and another value that may stand beside it print. */
        private void join(int one, int other) {
            int oneKind = pile.kinds[one];
            int otherKind = pile.kinds[other];
            if (oneKind > K_TEXT || otherKind > K_TEXT || oneKind != K_TEXT && otherKind != K_TEXT) {
                problem = 1;
                return;
            }
            int size = sliceSize(heap.show(oneKind, pile.bits[one]))
                    + sliceSize(heap.show(otherKind, pile.bits[other]));
            if (!heap.hasTextRoom(size)) {
                problem = NO_MEMORY;
                return;
            }
            heap.useText(size);
            int start = heap.words.used;
            heap.appendShown(oneKind, pile.bits[one]);
            heap.appendShown(otherKind, pile.bits[other]);
            give(2, K_TEXT, slice(start, size));
        }

        // Builtins.

        private void callBuiltin(int builtin) {
            int top = pile.size - 1;
            int kind = pile.kinds[top];
            long bits = pile.bits[top];
            switch (builtin) {
                case B_PRINT:
                    print(kind, bits);
                    break;
                case B_MAKE:
                    if (isPrototype(top)) {
                        makeObject(1, kind == K_NULL ? NONE : (int) bits);
                    } else {
                        problem = 12;
                    }
                    break;
                case B_PROTO:
                    if (isHolder(top)) {
                        int proto = heap.protoOf((int) bits);
                        int protoKind = proto == NONE ? K_NULL : heap.things[T_KIND][proto];
                        give(1, protoKind, Math.max(proto, 0));
                    } else {
                        problem = 12;
                    }
                    break;
                case B_TURN:
                    turn(top - 1, top);
                    break;
                case B_DROP:
                case B_HAS:
                    if (isHolder(top - 1) && kind == K_TEXT) {
                        askFor(builtin, (int) pile.bits[top - 1], bits);
                    } else {
                        problem = 12;
                    }
                    break;
                case B_KIND:
                    tellKind(kind, bits);
                    break;
                default:
                    giveClass(kind, bits);
                    break;
            }
        }

        /** Whether a value of the pile is an object or fun. */
        private boolean isHolder(int at) {
            return pile.kinds[at] == K_OBJECT || pile.kinds[at] == K_FUN;
        }

        private boolean isPrototype(int at) {
            return pile.kinds[at] == K_NULL || isHolder(at);
        }

        private void print(int kind, long bits) {
            if (heap.print(kind, bits)) {
                give(1, K_NULL, 0);
            } else {
                problem = NO_MEMORY;
            }
        }

        private void turn(int one, int other) {
            if (!isHolder(one) || !isPrototype(other)) {
                problem = 12;
                return;
            }
            int turned = (int) pile.bits[one];
            int proto = pile.kinds[other] == K_NULL ? NONE : (int) pile.bits[other];
            int up = proto;
            for (int i = 0; i <= heap.thingCount && up != NONE; i++) {
                if (up == turned) {
                    problem = 12;
                    return;
                }
                up = heap.protoOf(up);
            }
            int shape = heap.reshaped(turned, proto, NONE);
            if (shape == NONE) {
                problem = NO_MEMORY;
                return;
            }
            heap.things[T_SHAPE][turned] = shape;
            heap.noteChange(turned);
            give(2, pile.kinds[one], turned);
        }

        /** Drops a property by its name, or asks whether there is one. */
        private void askFor(int builtin, int thing, long text) {
            int name = heap.words.nameAt(heap.words.pool, sliceStart(text), sliceSize(text));
            if (builtin == B_HAS) {
                boolean has = name != NONE && heap.holderOf(thing, name) != NONE;
                give(2, K_BOOL, has ? 1 : 0);
                return;
            }
            int which = name == NONE ? NONE : heap.indexIn(heap.things[T_SHAPE][thing], name);
            if (which != NONE) {
                int shape = heap.reshaped(thing, heap.protoOf(thing), which);
                if (shape == NONE) {
                    problem = NO_MEMORY;
                    return;
                }
                heap.things[T_SHAPE][thing] = shape;
                heap.dropValue(thing, which);
                heap.noteChange(thing);
            }
            give(2, K_BOOL, which != NONE ? 1 : 0);
        }

        private void tellKind(int kind, long bits) {
            int word = kind == K_NUMBER && bits != (int) bits ? W_LONG : KIND_WORDS[kind];
            long text = heap.words.sliceOf(word);
            if (!heap.hasTextRoom(sliceSize(text))) {
                problem = NO_MEMORY;
                return;
            }
            heap.useText(sliceSize(text));
            give(1, K_TEXT, text);
        }

        private void giveClass(int kind, long bits) {
            Host host = heap.host;
            int word = NONE;
            if (kind == K_TEXT) {
                word = host.words.wordAt(heap.words.pool, sliceStart(bits), sliceSize(bits));
            }
            int type = word == NONE ? NONE : host.classTyped(word);
            if (type == NONE) {
                problem = 12;
            } else {
                give(1, K_CLASS, type);
            }
        }
    }

    /** Invokes a site: first aim(), then held(), look() if nothing was, then act(). */
    private static final class Linker {
        private final Heap heap;
        private final Code code;
        private final int[][] sites;
        private final int[][] entries;
        private Task task;
        private Row pile;
        private int site;
        private int kind;
        /** Where on the pile the value lies that the site goes to, and that value. */
        private int base;
        private int goalKind;
        private long goalBits;
        /** The site's name, or what an element's text is as such; NONE if there is none. */
        private int name;
        private int esCount;
        private long es;
        /** An entry that no site has: what a lookup finds comes to it. */
        private int found;
        private final byte[] scratch = new byte[TEXT_SIGNS + 4];
        private int gaveKind;
        private long gaveBits;
        final int[] asked = new int[4];
        int wrong;

        Linker(Heap heap, Code code) {
            this.heap = heap;
            this.code = code;
            sites = code.sites;
            entries = code.entries;
            found = code.takeEntry();
        }

        /** Begins anew, behind the code. */
        void clear() {
            Arrays.fill(asked, 0);
            wrong = 0;
            found = code.takeEntry();
        }

        /** Turns to a site; a problem is left with the task if there is no room for a name. */
        void aim(Task invoking, int s) {
            task = invoking;
            pile = invoking.pile;
            site = s;
            kind = sites[S_KIND][s];
            esCount = kind == SET ? 1 : sites[S_ES][s];
            boolean ofElement = kind == GET_ELEMENT || kind == SET_ELEMENT;
            int behind = esCount;
            if (ofElement) {
                behind = kind == GET_ELEMENT ? 1 : 2;
            }
            base = pile.size - 1 - behind;
            goalKind = pile.kinds[base];
            goalBits = pile.bits[base];
            es = 0;
            for (int i = 0; i < esCount; i++) {
                es |= (long) heap.classOf(pile.kinds[base + 1 + i], pile.bits[base + 1 + i]) << 7 * i;
            }
            // An element's text is a name ahead of all else: without room nothing else is done.
            name = ofElement && isHolder() ? elementName() : sites[S_NAME][s];
        }

        /** The name that an element's text is from now on, NONE if it can't be one. */
        private int elementName() {
            Words words = heap.words;
            long text = pile.bits[base + 1];
            int size = sliceSize(text);
            if (pile.kinds[base + 1] != K_TEXT || size < 1 || size > TEXT_SIGNS) {
                return NONE;
            }
            int known = words.nameAt(words.pool, sliceStart(text), size);
            if (known == NONE && words.nameCount < NAMES_MOST) {
                known = words.nameFor(words.wordFor(words.pool, sliceStart(text), size));
            }
            if (known == NONE) {
                task.problem = NO_MEMORY;
            }
            return known;
        }

        /** The first entry that holds, or NONE; stale ones on the way to it go. */
        int held() {
            int before = NONE;
            int entry = sites[S_FIRST][site];
            for (int i = 0; i < ENTRIES_MOST && entry != NONE; i++) {
                int next = entries[E_NEXT][entry];
                int shape = entries[E_GUARD][entry];
                if (heap.isStale(shape, entries[E_HOLDER][entry], entries[E_SINCE][entry])) {
                    sites[S_PRUNED][site]++;
                    code.removeEntry(site, before, entry);
                } else if (holds(entry)) {
                    sites[S_HITS][site]++;
                    if (!isRight(entry)) {
                        wrong++;
                    }
                    return entry;
                } else {
                    before = entry;
                }
                entry = next;
            }
            return NONE;
        }

        private boolean holds(int entry) {
            int guard = entries[E_GUARD][entry];
            switch (entries[E_LINKER][entry]) {
                case 0:
                    return isHolder() && holdsOn(entry, (int) goalBits);
                case 1:
                    return goalKind == K_INSTANCE && guard == heap.things[T_OF][(int) goalBits]
                            && holdsForEs(entry);
                case 2:
                    return goalKind == K_CLASS && guard == goalBits && holdsForEs(entry);
                default:
                    return goalKind == (guard == 0 ? K_LIST : K_TEXT);
            }
        }

        private boolean isHolder() {
            return goalKind == K_OBJECT || goalKind == K_FUN;
        }

        private boolean holdsOn(int entry, int thing) {
            if (kind == CALL || kind == NEW) {
                return goalKind == K_FUN && heap.things[T_OF][thing] == entries[E_GUARD][entry];
            }
            return heap.things[T_SHAPE][thing] == entries[E_GUARD][entry]
                    && name == entries[E_NAME][entry];
        }

        private boolean holdsForEs(int entry) {
            return entries[E_ES_HIGH][entry] == NONE || entries[E_ES_HIGH][entry] == (int) (es >>> 32)
                    && entries[E_ES_LOW][entry] == (int) es;
        }

        /**
         * Whether a lookup would find the same. Just things change: what the entries of hosts,
         * lists and texts say hangs on nothing but what their guards ask for.
         */
        private boolean isRight(int entry) {
            if (entries[E_LINKER][entry] != 0 || kind == CALL || kind == NEW) {
                return true;
            }
            int thing = (int) goalBits;
            int shape = heap.things[T_SHAPE][thing];
            int which = entries[E_WHICH][entry];
            if (kind == SET || kind == SET_ELEMENT) {
                return heap.indexIn(shape, name) == which
                        && (which != NONE || heap.shapeBehind(shape, name) == entries[E_SHAPE][entry]);
            }
            int holder = heap.holderOf(thing, name);
            if (holder == NONE) {
                return which == NONE;
            }
            return heap.indexIn(heap.things[T_SHAPE][holder], name) == which
                    && entries[E_HOLDER][entry] == (holder == thing ? NONE : holder);
        }

        // Lookups.

        /** Looks up what is to be done, and links it; a problem is left with the task. */
        int look() {
            int asks;
            switch (goalKind) {
                case K_OBJECT:
                case K_FUN:
                    asks = 0;
                    break;
                case K_INSTANCE:
                    asks = 1;
                    break;
                case K_CLASS:
                    asks = 2;
                    break;
                case K_LIST:
                case K_TEXT:
                    asks = 3;
                    break;
                default:
                    task.problem = 3;
                    return found;
            }
            asked[asks]++;
            for (int i = 0; i < E_WIDTH; i++) {
                entries[i][found] = NONE;
            }
            entries[E_LINKER][found] = asks;
            if (asks == 0) {
                lookAtThing((int) goalBits);
            } else if (asks == 3) {
                lookAtRow();
            } else if (asks == 1) {
                lookAtHost(heap.things[T_OF][(int) goalBits], OTHERS);
            } else {
                lookAtHost((int) goalBits, STATICS);
            }
            return task.problem == FINE && sites[S_MEGAMORPHIC][site] == 0 ? link() : found;
        }

        /** Makes what was found the first entry. */
        private int link() {
            sites[S_LINKS][site]++;
            if (sites[S_LINKS][site] >= LINKS_MOST) {
                sites[S_MEGAMORPHIC][site] = 1;
                for (int i = sites[S_ENTRIES][site]; i > 0; i--) {
                    code.removeEntry(site, NONE, sites[S_FIRST][site]);
                }
                return found;
            }
            if (sites[S_ENTRIES][site] == ENTRIES_MOST) {
                removeLast();
            }
            int linked = found;
            entries[E_NEXT][linked] = sites[S_FIRST][site];
            sites[S_FIRST][site] = linked;
            sites[S_ENTRIES][site]++;
            found = code.takeEntry();
            return linked;
        }

        private void removeLast() {
            int before = NONE;
            int last = sites[S_FIRST][site];
            for (int i = 1; i < ENTRIES_MOST; i++) {
                before = last;
                last = entries[E_NEXT][last];
            }
            code.removeEntry(site, before, last);
        }

        private void lookAtThing(int thing) {
            if (kind == CALL || kind == NEW) {
                entries[E_GUARD][found] = heap.things[T_OF][thing];
                if (goalKind != K_FUN) {
                    task.problem = 5;
                }
                return;
            }
            if (name == NONE) {
                task.problem = 6;
                return;
            }
            int shape = heap.things[T_SHAPE][thing];
            entries[E_NAME][found] = name;
            entries[E_GUARD][found] = shape;
            if (kind != SET && kind != SET_ELEMENT) {
                int holder = heap.holderOf(thing, name);
                if (holder != NONE) {
                    entries[E_WHICH][found] = heap.indexIn(heap.things[T_SHAPE][holder], name);
                }
                if (holder != thing) {
                    entries[E_HOLDER][found] = holder;
                    entries[E_SINCE][found] = heap.changes;
                }
                return;
            }
            entries[E_WHICH][found] = heap.indexIn(shape, name);
            if (entries[E_WHICH][found] == NONE) {
                entries[E_SHAPE][found] = heap.reachShape(shape, name);
                if (entries[E_SHAPE][found] == NONE) {
                    task.problem = NO_MEMORY;
                }
            }
        }

        private void lookAtRow() {
            boolean isList = goalKind == K_LIST;
            int word = name == NONE ? NONE : heap.words.names[name];
            boolean known;
            entries[E_GUARD][found] = isList ? 0 : 1;
            switch (kind) {
                case GET:
                    known = word == W_SIZE;
                    break;
                case METHOD:
                    known = isList ? word == W_PUSH && esCount == 1 || word == W_POP && esCount == 0
                            : word == W_SUB && esCount == 2;
                    break;
                default:
                    if (kind != GET_ELEMENT && (kind != SET_ELEMENT || !isList)) {
                        task.problem = 5;
                    }
                    return;
            }
            if (!known) {
                task.problem = 4;
            }
        }

        private void lookAtHost(int type, int among) {
            Host host = heap.host;
            int which;
            entries[E_GUARD][found] = type;
            if (kind == GET) {
                which = getter(type, among);
            } else if (kind == SET) {
                which = host.choose(type, among, wordBehind("set"), true, es, 1);
            } else if (kind == METHOD) {
                which = host.choose(type, among, wordBehind(""), false, es, esCount);
            } else if (kind == NEW && among == STATICS) {
                which = host.choose(type, CONSTRUCTORS, HW_NEW, false, es, esCount);
            } else {
                task.problem = 5;
                return;
            }
            if (kind != GET && which >= 0) {
                entries[E_ES_LOW][found] = (int) es;
                entries[E_ES_HIGH][found] = (int) (es >>> 32);
            }
            if (which == NONE && (kind == GET || kind == SET)) {
                which = fieldOf(type, among);
            }
            if (which < 0) {
                task.problem = which == NONE ? 4 : -which;
            }
            entries[E_WHICH][found] = which;
        }

        /** The host's word of the site's name, behind get, is or set with a capital; or NONE. */
        private int wordBehind(String head) {
            Words words = heap.words;
            int word = words.names[name];
            int size = words.sizes[word];
            int start = head.length();
            if (start + size > scratch.length) {
                return NONE;
            }
            for (int i = 0; i < start; i++) {
                scratch[i] = (byte) head.charAt(i);
            }
            System.arraycopy(words.pool, words.starts[word], scratch, start, size);
            if (start > 0 && isSmall(scratch[start])) {
                scratch[start] -= 'a' - 'A';
            }
            return heap.host.words.wordAt(scratch, 0, start + size);
        }

        /** The method that gives what a name is read for, or NONE. */
        private int getter(int type, int among) {
            Host host = heap.host;
            int word = wordBehind("get");
            int method = word == NONE ? NONE : host.plainMethod(type, word, among);
            if (method != NONE) {
                return method;
            }
            word = wordBehind("is");
            method = word == NONE ? NONE : host.plainMethod(type, word, among);
            return method != NONE && host.members[M_TYPE][method] == BOOL ? method : NONE;
        }

        private int fieldOf(int type, int among) {
            int word = wordBehind("");
            return word == NONE ? NONE : heap.host.nearestField(type, word, among);
        }

        // What an entry says is done.

        void act(int entry) {
            int which = entries[E_WHICH][entry];
            switch (entries[E_LINKER][entry]) {
                case 0:
                    if (kind == NEW) {
                        makeNew((int) goalBits);
                    } else {
                        actOnThing(entry, (int) goalBits);
                    }
                    break;
                case 3:
                    if (goalKind == K_TEXT) {
                        actOnText();
                    } else if (kind == GET_ELEMENT || kind == SET_ELEMENT) {
                        actOnElement((int) goalBits);
                    } else {
                        actOnList((int) goalBits);
                    }
                    break;
                default:
                    if (heap.host.members[M_SORT][which] == FIELD) {
                        actOnField(which);
                    } else {
                        callMember(which);
                    }
                    break;
            }
        }

        private void actOnThing(int entry, int thing) {
            if (kind == CALL) {
                if (task.canEnter(thing, 0)) {
                    task.enter(thing, base, K_NULL, 0, false);
                }
            } else if (kind == SET || kind == SET_ELEMENT) {
                setProperty(entry, thing);
            } else {
                int which = entries[E_WHICH][entry];
                int holder = entries[E_HOLDER][entry] == NONE ? thing : entries[E_HOLDER][entry];
                int at = heap.things[T_START][holder] + which;
                int valueKind = which == NONE ? K_NULL : heap.cells.kinds[at];
                long bits = which == NONE ? 0 : heap.cells.bits[at];
                if (kind != METHOD) {
                    giveValue(valueKind, bits);
                } else if (valueKind != K_FUN) {
                    task.problem = valueKind == K_NULL ? 4 : 5;
                } else if (task.canEnter((int) bits, 0)) {
                    task.enter((int) bits, base, goalKind, goalBits, false);
                }
            }
        }

        /** Ends the site's instruction: its values go from the pile, another one comes. */
        private void giveValue(int valueKind, long bits) {
            pile.size = base;
            pile.add(valueKind, bits);
            task.nexts[task.calls - 1]++;
        }

        private void makeNew(int fun) {
            int wanted = heap.words.nameOf[W_PROTO];
            int holder = wanted == NONE ? NONE : heap.holderOf(fun, wanted);
            int proto = NONE;
            if (holder != NONE) {
                int which = heap.indexIn(heap.things[T_SHAPE][holder], wanted);
                int at = heap.things[T_START][holder] + which;
                if (heap.cells.kinds[at] == K_OBJECT || heap.cells.kinds[at] == K_FUN) {
                    proto = (int) heap.cells.bits[at];
                }
            }
            if (!task.canEnter(fun, 1)) {
                return;
            }
            if (!heap.hasObjectRoom(proto)) {
                task.problem = NO_MEMORY;
                return;
            }
            int shape = heap.bareShape(proto);
            int made = heap.addThing(K_OBJECT, shape, NONE, 0);
            task.enter(fun, base, K_OBJECT, made, true);
        }

        private void setProperty(int entry, int thing) {
            int top = pile.size - 1;
            int which = entries[E_WHICH][entry];
            if (which != NONE) {
                heap.cells.put(heap.things[T_START][thing] + which, pile.kinds[top], pile.bits[top]);
            } else if (heap.things[T_SIZE][thing] >= PROPERTIES_MOST || !heap.hasRoom(L_VALUES, 1)) {
                task.problem = NO_MEMORY;
                return;
            } else {
                heap.addValue(thing, pile.kinds[top], pile.bits[top]);
                heap.things[T_SHAPE][thing] = entries[E_SHAPE][entry];
                heap.noteChange(thing);
            }
            giveValue(pile.kinds[top], pile.bits[top]);
        }

        private void actOnList(int list) {
            int size = heap.things[T_SIZE][list];
            if (kind == GET) {
                giveValue(K_NUMBER, size);
            } else if (esCount == 1) {
                if (addElement(list)) {
                    giveValue(K_NUMBER, size + 1);
                }
            } else if (size == 0) {
                giveValue(K_NULL, 0);
            } else {
                int last = heap.things[T_START][list] + size - 1;
                heap.things[T_SIZE][list]--;
                giveValue(heap.cells.kinds[last], heap.cells.bits[last]);
            }
        }

        /** Adds the value that lies on the top of the pile, if there is room. */
        private boolean addElement(int list) {
            int top = pile.size - 1;
            if (!heap.hasRoom(L_VALUES, 1)) {
                task.problem = NO_MEMORY;
                return false;
            }
            heap.addValue(list, pile.kinds[top], pile.bits[top]);
            return true;
        }

        private void actOnElement(int list) {
            int top = pile.size - 1;
            int size = heap.things[T_SIZE][list];
            int end = kind == SET_ELEMENT ? size + 1 : size;
            long index = pile.bits[base + 1];
            if (pile.kinds[base + 1] != K_NUMBER || index < 0 || index >= end) {
                task.problem = 6;
                return;
            }
            int at = heap.things[T_START][list] + (int) index;
            if (kind == GET_ELEMENT) {
                giveValue(heap.cells.kinds[at], heap.cells.bits[at]);
            } else if (index < size) {
                heap.cells.put(at, pile.kinds[top], pile.bits[top]);
                giveValue(pile.kinds[top], pile.bits[top]);
            } else if (addElement(list)) {
                giveValue(pile.kinds[top], pile.bits[top]);
            }
        }

        private void actOnText() {
            int size = sliceSize(goalBits);
            if (kind == GET) {
                giveValue(K_NUMBER, size);
                return;
            }
            int last = pile.size - 1;
            long from = pile.bits[base + 1];
            // Of an element too great a number goes round, and to is then less than from.
            long to = kind == METHOD ? pile.bits[last] : from + 1;
            if (pile.kinds[base + 1] != K_NUMBER || pile.kinds[last] != K_NUMBER || from < 0
                    || from > to || to > size) {
                task.problem = 6;
                return;
            }
            int cut = (int) (to - from);
            if (!heap.hasTextRoom(cut)) {
                task.problem = NO_MEMORY;
                return;
            }
            heap.useText(cut);
            giveValue(K_TEXT, slice(sliceStart(goalBits) + (int) from, cut));
        }

        // Fields: those of a class lie in a row of their own, an instance's among the cells.

        private Row rowOf(int field) {
            return heap.host.members[M_STATIC][field] == 1 ? heap.host.statics : heap.cells;
        }

        private int placeOf(int field) {
            int at = heap.host.members[M_FIELD][field];
            boolean isStatic = heap.host.members[M_STATIC][field] == 1;
            return isStatic ? at : heap.things[T_START][(int) goalBits] + at;
        }

        private void actOnField(int field) {
            Row row = rowOf(field);
            int at = placeOf(field);
            if (kind == GET) {
                giveValue(row.kinds[at], row.bits[at]);
            } else if (heap.host.goesTo((int) es, heap.host.members[M_TYPE][field], true)) {
                int top = pile.size - 1;
                row.put(at, pile.kinds[top], pile.bits[top]);
                giveValue(pile.kinds[top], pile.bits[top]);
            } else {
                task.problem = 7;
            }
        }

        // Members that are called.

        private void callMember(int m) {
            Host host = heap.host;
            boolean makes = host.members[M_SORT][m] == CONSTRUCTOR;
            boolean tellsName = !makes && host.members[M_TYPE][m] == TEXT && host.members[M_FIELD][m] == NONE;
            int fields = makes ? host.types[C_FIELDS][host.members[M_CLASS][m]] : 0;
            if (heap.traceSize + 2 > TRACE_MOST
                    || makes && !(heap.hasRoom(L_MADE, 1) && heap.hasRoom(L_VALUES, fields))
                    || tellsName && !heap.hasTextRoom(host.words.sizes[host.members[M_WORD][m]])) {
                task.problem = NO_MEMORY;
                return;
            }
            heap.addTrace(m, esCount);
            gaveKind = K_NULL;
            gaveBits = 0;
            if (makes) {
                construct(m);
            } else if (host.members[M_FIELD][m] != NONE) {
                useField(m, host.members[M_FIELD][m]);
            } else {
                answer(m);
            }
            if (kind == SET) {
                gaveKind = pile.kinds[pile.size - 1];
                gaveBits = pile.bits[pile.size - 1];
            }
            giveValue(gaveKind, gaveBits);
        }

        private void construct(int m) {
            Host host = heap.host;
            int type = host.members[M_CLASS][m];
            int fields = host.types[C_FIELDS][type];
            int made = heap.addThing(K_INSTANCE, NONE, type, fields);
            // K_UNSET marks the fields that no argument has set yet.
            for (int i = 0; i < fields; i++) {
                heap.addValue(made, K_UNSET, 0);
            }
            for (int i = 0; i < esCount; i++) {
                int at = firstUnset(made, host.parameterType(m, i));
                if (at != NONE) {
                    heap.cells.put(at, pile.kinds[base + 1 + i], pile.bits[base + 1 + i]);
                }
            }
            int start = heap.things[T_START][made];
            int field = host.types[C_LAST][type];
            for (int i = start + fields - 1; i >= start; i--) {
                if (heap.cells.kinds[i] == K_UNSET) {
                    heap.cells.put(i, Host.firstKind(host.members[M_TYPE][field]), 0);
                }
                field = host.members[M_BEFORE][field];
            }
            gaveKind = K_INSTANCE;
            gaveBits = made;
        }

        /** Where the first field of a type lies that is not set yet, or NONE. */
        private int firstUnset(int instance, int wanted) {
            Host host = heap.host;
            int start = heap.things[T_START][instance];
            int first = NONE;
            int field = host.types[C_LAST][heap.things[T_OF][instance]];
            for (int i = start + heap.things[T_SIZE][instance] - 1; i >= start; i--) {
                if (heap.cells.kinds[i] == K_UNSET && host.members[M_TYPE][field] == wanted) {
                    first = i;
                }
                field = host.members[M_BEFORE][field];
            }
            return first;
        }

        /** A method that gives or sets a field. */
        private void useField(int m, int field) {
            Row row = rowOf(field);
            int at = placeOf(field);
            if (heap.host.members[M_COUNT][m] == 1) {
                row.put(at, pile.kinds[base + 1], pile.bits[base + 1]);
            } else {
                gaveKind = row.kinds[at];
                gaveBits = row.bits[at];
            }
        }

        /** Any other method gives something by its type. */
        private void answer(int m) {
            int type = heap.host.members[M_TYPE][m];
            if (type == TEXT) {
                answerName(heap.host.members[M_WORD][m]);
            } else if (type >= ANY) {
                answerThing(heap.host.members[M_STATIC][m] == 1, type);
            } else if (type != VOID) {
                long sum = m;
                for (int i = 0; i < esCount; i++) {
                    sum += pile.kinds[base + 1 + i] == K_NUMBER ? pile.bits[base + 1 + i] : 0;
                }
                boolean isBool = type == BOOL || type == BIG_BOOL;
                gaveKind = isBool ? K_BOOL : K_NUMBER;
                gaveBits = isBool ? sum & 1 : type == INT || type == BIG_INT ? (int) sum : sum;
            }
        }

        private void answerName(int word) {
            Words hostWords = heap.host.words;
            int size = hostWords.sizes[word];
            heap.useText(size);
            gaveKind = K_TEXT;
            gaveBits = slice(heap.words.append(hostWords.pool, hostWords.starts[word], size), size);
        }

        private void answerThing(boolean ofStatic, int type) {
            if (!ofStatic && isOf(goalKind, goalBits, type)) {
                gaveKind = goalKind;
                gaveBits = goalBits;
                return;
            }
            for (int i = 0; i < esCount; i++) {
                int at = base + 1 + i;
                if (pile.kinds[at] != K_NULL && isOf(pile.kinds[at], pile.bits[at], type)) {
                    gaveKind = pile.kinds[at];
                    gaveBits = pile.bits[at];
                    return;
                }
            }
        }

        private boolean isOf(int valueKind, long bits, int type) {
            return type == ANY || valueKind == K_INSTANCE
                    && heap.host.isSubtype(heap.classOf(valueKind, bits), type);
        }
    }
}
