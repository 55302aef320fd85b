/** The face of the class, for tests that ask two of its kind the same. */
interface Face {
    int feed(long a, long b);

    int host();

    int type(int k, int what);

    int member(int k, int what);

    boolean subtype(int type, int of);

    int compile();

    int function(int f, int what);

    int code(int f, int i, int what);

    int site(int s, int what);

    int entry(int s, int k, int what);

    int name(int n, int i);

    boolean start(int t, int u);

    int steps(int t, int n);

    int task(int t, int what);

    long result(int t, int what);

    int sign(int t, int i);

    long global(int what);

    int thing(int k, int what);

    long property(int k, int i, int what);

    int shape(int k, int what);

    int output(int i);

    int trace(int i);

    int count(int what);

    /** The class itself. */
    final class Real implements Face {
        private final LinkedTongue tongue = new LinkedTongue();

        public int feed(long a, long b) {
            return tongue.feed(a, b);
        }

        public int host() {
            return tongue.host();
        }

        public int type(int k, int what) {
            return tongue.type(k, what);
        }

        public int member(int k, int what) {
            return tongue.member(k, what);
        }

        public boolean subtype(int type, int of) {
            return tongue.subtype(type, of);
        }

        public int compile() {
            return tongue.compile();
        }

        public int function(int f, int what) {
            return tongue.function(f, what);
        }

        public int code(int f, int i, int what) {
            return tongue.code(f, i, what);
        }

        public int site(int s, int what) {
            return tongue.site(s, what);
        }

        public int entry(int s, int k, int what) {
            return tongue.entry(s, k, what);
        }

        public int name(int n, int i) {
            return tongue.name(n, i);
        }

        public boolean start(int t, int u) {
            return tongue.start(t, u);
        }

        public int steps(int t, int n) {
            return tongue.steps(t, n);
        }

        public int task(int t, int what) {
            return tongue.task(t, what);
        }

        public long result(int t, int what) {
            return tongue.result(t, what);
        }

        public int sign(int t, int i) {
            return tongue.sign(t, i);
        }

        public long global(int what) {
            return tongue.global(what);
        }

        public int thing(int k, int what) {
            return tongue.thing(k, what);
        }

        public long property(int k, int i, int what) {
            return tongue.property(k, i, what);
        }

        public int shape(int k, int what) {
            return tongue.shape(k, what);
        }

        public int output(int i) {
            return tongue.output(i);
        }

        public int trace(int i) {
            return tongue.trace(i);
        }

        public int count(int what) {
            return tongue.count(what);
        }
    }
}
