/** The program that README.md shows. */
public final class Example {
    public static void main(String[] args) {
        LinkedTongue tongue = new LinkedTongue();
        feed(tongue, "class Point { int x; int y; new (int, int); int getX(); Text hello(); }");
        System.out.println("host: " + tongue.host());

        feed(tongue, "p = new (host(\"Point\"))(3, 4); o = { a: p.x + p.y }; q = make(o); "
                + "i = 0; while (i < 3) { print(q.a); i = i + 1; } return p.hello();");
        int unit = tongue.compile();
        System.out.println("unit: " + unit);

        tongue.start(0, unit);
        while (tongue.task(0, 0) == 1) {
            tongue.steps(0, 1000);
        }
        for (int i = 0; i < tongue.count(15); i++) {
            System.out.print((char) tongue.output(i));
        }
        System.out.print("result, of kind " + tongue.result(0, 0) + ": ");
        for (int i = 0; i < tongue.result(0, 1); i++) {
            System.out.print((char) tongue.sign(0, i));
        }
        System.out.println();

        for (int s = 0; s < tongue.count(6); s++) {
            System.out.println("site " + s + ": kind " + tongue.site(s, 0) + ", links " + tongue.site(s, 6)
                    + ", hits " + tongue.site(s, 7));
        }
    }

    /** A call takes sixteen signs: eight in each long, from the highest byte on. */
    private static void feed(LinkedTongue tongue, String text) {
        for (int i = 0; i < text.length(); i += 16) {
            long a = 0;
            long b = 0;
            for (int j = 0; j < 8; j++) {
                a = a << 8 | signAt(text, i + j);
                b = b << 8 | signAt(text, i + 8 + j);
            }
            tongue.feed(a, b);
        }
    }

    private static int signAt(String text, int i) {
        return i < text.length() ? text.charAt(i) : 0;
    }
}
