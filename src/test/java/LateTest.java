/**
 * The document's greatest numbers that 512 calls can't reach, since these feed 8192 signs at most: what later calls answer
 * is free, and the class keeps to the same sentences there.
 */
public final class LateTest {
    public static void main(String[] args) {
        fullTape();
        instructions();
        sites();
        names();
        texts();
        Bench.end();
    }

    private static void fullTape() {
        Bench.about("late, promise 2: it would be longer than 65536");
        long blanks = 0x2020202020202020L;
        Face tongue = nearlyFull();
        Bench.due("count(0)", tongue.count(0), 65521);
        Bench.due("fifteen: the last", tongue.feed(blanks >>> 8, blanks), 65536);
        tongue = nearlyFull();
        Bench.due("fifteen: the last, from the highest", tongue.feed(blanks, blanks << 8), 65536);
        tongue = nearlyFull();
        Bench.due("sixteen: one too many", tongue.feed(blanks, blanks), -1);
        Bench.due("a bad one when full", tongue.feed(0, 127), -1);
        Bench.due("fourteen more", tongue.feed(blanks >>> 16, blanks), 65535);
        Bench.due("two too many", tongue.feed(0x2020L, 0), -1);
        Bench.due("the last one", tongue.feed(0, 0x20), 65536);
        Bench.due("one too many", tongue.feed(0, 'a'), -1);
        Bench.due("none more", tongue.feed(0, 0), 65536);
        Bench.due("host() of it", tongue.host(), 0);
        Bench.due("empty again", tongue.feed(0, 'a'), 1);
        Bench.due("nothing of it is left", tongue.compile(), -1 - (1 + 16));
    }

    /** An object on whose tape there is room for fifteen signs. */
    private static Face nearlyFull() {
        Face tongue = Bench.late().tongue;
        tongue.feed(0, 0x20);
        for (int i = 1; i < 4096; i++) {
            tongue.feed(0x2020202020202020L, 0x2020202020202020L);
        }
        return tongue;
    }

    private static void instructions() {
        Bench.about("late, term 3, fault 7: more than 20000 INSTRUCTIONS in all (at the text's end)");
        Bench bench = Bench.late();
        String most = Bench.times("1;", 9997);
        Bench.due("20001", bench.fault(most + "1;!1;"), 7 + 16 * 19999);
        Bench.due("20001 and blanks", bench.fault(most + "1;!1; \n"), 7 + 16 * 20001);
        Bench.due("20001 and another fault", bench.fault(most + "1;!1;#"), 1 + 16 * 19999);
        Bench.due("none of it is left", bench.tongue.count(5) + " " + bench.tongue.count(3), "0 0");
        Bench.due("20000", bench.compile(most.substring(2) + "!1;!1;"), 0);
        Bench.due("count(5)", bench.tongue.count(5), 20000);
        Bench.due("one more unit", bench.fault(" \n"), 7 + 16 * 2);
        bench = Bench.late();
        bench.compile(Bench.times("1;", 9990) + "fun f() { }");
        Bench.due("through all units", bench.tongue.count(5), 19987);
        Bench.due("14 more", bench.fault("1;1;1;!1;!1;"), 7 + 16 * 12);
        Bench.due("13 more", bench.compile("1;1;1;1;!1;"), 1);
        Bench.due("count(5)", bench.tongue.count(5), 20000);
        Bench.due("the last one", bench.tongue.code(2, 12, 0) + " " + bench.tongue.code(2, 13, 0), "29 -1");
    }

    private static void sites() {
        Bench.about("late, term 3, fault 7: more than 4000 SITES in all (at the text's end)");
        String[] ones = {"a[1];", "a();", "a.b();", "a.b=1;", "a[1]=b[2]=3;", "new a();"};
        for (String one : ones) {
            int of = one.equals("a[1]=b[2]=3;") ? 2 : 1;
            Bench bench = Bench.late();
            String more = Bench.times(one, 4000 / of) + "a();";
            Bench.due("4001 of " + one, bench.fault(more), 7 + 16 * more.length());
            String first = Bench.times(one, 2500 / of);
            Bench.due("4000 of " + one, bench.compile(first) + " " + bench.compile(Bench.times(one, 1500 / of)) + " "
                    + bench.tongue.count(6), "0 1 4000");
            Bench.due("one more", bench.fault(one), 7 + 16 * one.length());
            Bench.due("of none", bench.compile("a = 1;"), 2);
        }
    }

    private static void names() {
        Bench.about("late, term 3, fault 7: more than 4000 NAMES (at the name)");
        Bench bench = Bench.late();
        StringBuilder text = new StringBuilder();
        for (int i = 0; i < 3999; i++) {
            text.append('n').append(i).append(';');
        }
        Bench.due("3999 names", bench.compile(text.toString()), 0);
        Bench.due("one more", bench.compile("n5 + m;"), 1);
        Bench.due("a name too many", bench.fault("m; k;"), 7 + 16 * 3);
        Bench.due("none too many", bench.fault("m.n7 = n3998;"), -1);
        Bench.due("count(8)", bench.tongue.count(8), 4000);
        Bench.due("the last two", bench.name(3998) + " " + bench.name(3999), "n3998 m");
    }

    private static void texts() {
        Bench.about("late, term 3, fault 7: more than 4000 TEXTS (at the text)");
        StringBuilder text = new StringBuilder("o=[");
        for (int i = 0; i < 3999; i++) {
            text.append('"').append(i).append("\",");
        }
        Bench bench = Bench.late();
        bench.compile(text + "0];");
        Bench.due("count(9)", bench.tongue.count(9), 3999);
        Bench.due("two more", bench.fault("\"7\"; \"a\"; \"b\";"), 7 + 16 * 10);
        Bench.due("the same two times", bench.fault("\"7\"; \"a\"; \"a\";"), -1);
        Bench.due("count(9)", bench.tongue.count(9), 4000);
        Bench.due("one more", bench.fault("\"b\";"), 7);
        Bench.due("where none can come", bench.fault("a \"b\";"), 1 + 16 * 2);
        Bench.due("as a ninth", bench.fault("f(1,2,3,4,5,6,7,8,\"b\");"), 6 + 16 * 18);
        Bench.due("a bad one", bench.fault("\"\\b\";"), 1);
        Bench.due("an old one", bench.fault("\"3998\" + \"a\";"), -1);
    }
}
