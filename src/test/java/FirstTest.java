public final class FirstTest {
    public static void main(String[] args) {
        Bench.due("output", Bench.ran("print(1 + 2);").output(), "3\n");
        Bench.end();
    }
}
