import java.util.function.Supplier;

/** The face of the class, for tests that ask others of its kind the same. */
interface Face {
    int feed(long a, long b);

    int host();

    int type(int k, int what);

    int member(int k, int what);

    boolean subtype(int type, int of);

    int compile();

    int function(int f, int what);

    int code(int f, int i, int what);

    int site(int s, int what);

    int entry(int s, int k, int what);

    int name(int n, int i);

    boolean start(int t, int u);

    int steps(int t, int n);

    int task(int t, int what);

    long result(int t, int what);

    int sign(int t, int i);

    long global(int what);

    int thing(int k, int what);

    long property(int k, int i, int what);

    int shape(int k, int what);

    int output(int i);

    int trace(int i);

    int count(int what);

    /** How many calls of one object the document says something about. */
    int CALLS_MOST = 512;

    /** The class itself; a call that is one too many is a wrong one. */
    final class Real implements Face {
        private final LinkedTongue tongue = new LinkedTongue();
        private final int most;
        private int calls;

        Real() {
            this(CALLS_MOST);
        }

        Real(int most) {
            this.most = most;
        }

        /** How many calls may come yet. */
        int left() {
            return most - calls;
        }

        private LinkedTongue called() {
            if (calls == most) {
                Bench.due("one object's calls", calls + 1, most);
            }
            calls++;
            return tongue;
        }

        public int feed(long a, long b) {
            return called().feed(a, b);
        }

        public int host() {
            return called().host();
        }

        public int type(int k, int what) {
            return called().type(k, what);
        }

        public int member(int k, int what) {
            return called().member(k, what);
        }

        public boolean subtype(int type, int of) {
            return called().subtype(type, of);
        }

        public int compile() {
            return called().compile();
        }

        public int function(int f, int what) {
            return called().function(f, what);
        }

        public int code(int f, int i, int what) {
            return called().code(f, i, what);
        }

        public int site(int s, int what) {
            return called().site(s, what);
        }

        public int entry(int s, int k, int what) {
            return called().entry(s, k, what);
        }

        public int name(int n, int i) {
            return called().name(n, i);
        }

        public boolean start(int t, int u) {
            return called().start(t, u);
        }

        public int steps(int t, int n) {
            return called().steps(t, n);
        }

        public int task(int t, int what) {
            return called().task(t, what);
        }

        public long result(int t, int what) {
            return called().result(t, what);
        }

        public int sign(int t, int i) {
            return called().sign(t, i);
        }

        public long global(int what) {
            return called().global(what);
        }

        public int thing(int k, int what) {
            return called().thing(k, what);
        }

        public long property(int k, int i, int what) {
            return called().property(k, i, what);
        }

        public int shape(int k, int what) {
            return called().shape(k, what);
        }

        public int output(int i) {
            return called().output(i);
        }

        public int trace(int i) {
            return called().trace(i);
        }

        public int count(int what) {
            return called().count(what);
        }
    }

    /** Many objects that are made alike, one asked behind the other, for what changes nothing. */
    final class Alike implements Face {
        private final Supplier<Real> maker;
        private Real asked;

        Alike(Supplier<Real> maker) {
            this.maker = maker;
            asked = maker.get();
        }

        private Real asked() {
            if (asked.left() <= 0) {
                asked = maker.get();
            }
            return asked;
        }

        public int feed(long a, long b) {
            return asked().feed(a, b);
        }

        public int host() {
            return asked().host();
        }

        public int type(int k, int what) {
            return asked().type(k, what);
        }

        public int member(int k, int what) {
            return asked().member(k, what);
        }

        public boolean subtype(int type, int of) {
            return asked().subtype(type, of);
        }

        public int compile() {
            return asked().compile();
        }

        public int function(int f, int what) {
            return asked().function(f, what);
        }

        public int code(int f, int i, int what) {
            return asked().code(f, i, what);
        }

        public int site(int s, int what) {
            return asked().site(s, what);
        }

        public int entry(int s, int k, int what) {
            return asked().entry(s, k, what);
        }

        public int name(int n, int i) {
            return asked().name(n, i);
        }

        public boolean start(int t, int u) {
            return asked().start(t, u);
        }

        public int steps(int t, int n) {
            return asked().steps(t, n);
        }

        public int task(int t, int what) {
            return asked().task(t, what);
        }

        public long result(int t, int what) {
            return asked().result(t, what);
        }

        public int sign(int t, int i) {
            return asked().sign(t, i);
        }

        public long global(int what) {
            return asked().global(what);
        }

        public int thing(int k, int what) {
            return asked().thing(k, what);
        }

        public long property(int k, int i, int what) {
            return asked().property(k, i, what);
        }

        public int shape(int k, int what) {
            return asked().shape(k, what);
        }

        public int output(int i) {
            return asked().output(i);
        }

        public int trace(int i) {
            return asked().trace(i);
        }

        public int count(int what) {
            return asked().count(what);
        }
    }
}
