/** Promises 1 and 2 and term 1, sentence by sentence: the last that goes, and the first that does not. */
public final class TapeEdgesTest {
    private static final String THIRTY = "a23456789_123456789_123456789_";
    private static final String SIXTY = THIRTY + THIRTY;

    public static void main(String[] args) {
        nothingYet();
        signsOfTheTape();
        sixteenBytes();
        whatReadsEmpties();
        names();
        numbers();
        texts();
        signs();
        blanksAndComments();
        badTokens();
        Bench.end();
    }

    private static void nothingYet() {
        Bench.about("promise 1: a new object has nothing");
        Bench bench = new Bench();
        Face tongue = bench.tongue;
        Bench.due("counts", bench.counts(), "counts 0 0 0 0 0 0 0 0 0 0 0 1 0 0 0 0 0 -1 -1 0 0 0 0");
        Bench.due("count(0)", tongue.count(0), 0);
        Bench.due("tasks", bench.told(0) + ", " + bench.told(1), "0 0 0 -1 -1, 0 0 0 -1 -1");
        Bench.due("result(0, 0)", Bench.answer(() -> tongue.result(0, 0)), "IllegalStateException");
        Bench.due("steps(0, 1)", Bench.answer(() -> tongue.steps(0, 1)), "IllegalStateException");
        Bench.due("property(0, 0, 0)", Bench.answer(() -> tongue.property(0, 0, 0)), "IndexOutOfBoundsException");
        Bench.due("global(0)", Bench.answer(() -> tongue.global(0)), "NoSuchElementException");
        int[] none = {tongue.type(0, 0), tongue.member(0, 0), tongue.function(0, 0), tongue.code(0, 0, 0), tongue.site(0, 0),
            tongue.entry(0, 0, 0), tongue.name(0, 0), tongue.sign(0, 0), tongue.thing(0, 0), tongue.shape(1, 0), tongue.output(0),
            tongue.trace(0)};
        for (int i = 0; i < none.length; i++) {
            Bench.due("what there is none of, " + i, none[i], -1);
        }
        Bench.due("start(0, 0)", tongue.start(0, 0), false);
        Bench.due("types of no host", tongue.subtype(1, 2) + " " + tongue.subtype(9, 9), "true false");
        Bench.due("compile() of nothing", tongue.compile(), 0);
        Bench.due("one object is not another", new Face.Real().count(3), 0);
    }

    private static void signsOfTheTape() {
        Bench.about("term 1: signs are 10 and 32 .. 126");
        Face tongue = new Face.Real();
        int length = 0;
        for (int c = 1; c < 256; c++) {
            boolean isSign = c == 10 || c >= 32 && c <= 126;
            length += isSign ? 1 : 0;
            Bench.due("feed of " + c, tongue.feed(0, c), isSign ? length : -1);
        }
        Bench.due("count(0)", tongue.count(0), 96);
    }

    private static void sixteenBytes() {
        Bench.about("promise 2: sixteen bytes, from the highest of a to the lowest of b, zeros left out");
        for (int i = 0; i < 16; i++) {
            Face tongue = new Face.Real();
            int shift = 56 - 8 * (i % 8);
            long sign = 126L << shift;
            Bench.due("a sign at " + i, i < 8 ? tongue.feed(sign, 0) : tongue.feed(0, sign), 1);
            // A blank instead of each zero, and a bad byte in its place.
            long blanks = 0x2020202020202020L;
            long bad = blanks & ~(255L << shift) | 127L << shift;
            Bench.due("a bad one at " + i, i < 8 ? tongue.feed(bad, blanks) : tongue.feed(blanks, bad), -1);
            long top = blanks & ~(255L << shift) | 160L << shift;
            Bench.due("a great one at " + i, i < 8 ? tongue.feed(top, blanks) : tongue.feed(blanks, top), -1);
            long zero = blanks & ~(255L << shift);
            Bench.due("a zero at " + i, i < 8 ? tongue.feed(zero, blanks) : tongue.feed(blanks, zero), 16);
        }
        Bench bench = new Bench();
        bench.tongue.feed(0x6100620063003132L, 0x3334353637383D31L);
        bench.tongue.feed(0, ';');
        Bench.due("compile()", bench.tongue.compile(), 0);
        Bench.due("in this order", bench.name(0), "abc12345678");
        Face tongue = new Face.Real();
        Bench.due("all zeros", tongue.feed(0, 0), 0);
        Bench.due("all sixteen", tongue.feed(0x7E7E7E7E7E7E7E7EL, 0x0A0A0A0A0A0A0A0AL), 16);
        Bench.due("none of sixteen", tongue.feed(0x7E7E7E7E7E7E7E7EL, 0x0A0A0A0A0A0A0A0BL), -1);
        Bench.due("it changes nothing", tongue.count(0), 16);
    }

    private static void whatReadsEmpties() {
        Bench.about("term 1: what reads the tape makes it empty, also when it tells a fault");
        Bench bench = new Bench();
        Face tongue = bench.tongue;
        Bench.due("a host", bench.host("class A { }") + " " + tongue.count(0), "0 0");
        Bench.due("a host's fault", bench.host("class") + " " + tongue.count(0), (1 + 16 * 5) + " 0");
        Bench.due("a unit", bench.compile("a = 1; a;") + " " + tongue.count(0), "0 0");
        Bench.due("a unit's fault", bench.fault("a = ") + " " + tongue.count(0), (1 + 16 * 4) + " 0");
        bench.runUnit(0, 0);
        bench.feed("a");
        Bench.due("a global", tongue.global(1) + " " + tongue.count(0), "1 0");
        bench.feed("b");
        Bench.due("no global", Bench.answer(() -> tongue.global(1)) + " " + tongue.count(0), "NoSuchElementException 0");
        for (int what : new int[] {-1, 2, Integer.MIN_VALUE, Integer.MAX_VALUE}) {
            bench.feed("a");
            Bench.due("global(" + what + ")", Bench.answer(() -> tongue.global(what)) + " " + tongue.count(0),
                    "IndexOutOfBoundsException 0");
        }
        for (int u = 1; u < 16; u++) {
            tongue.compile();
        }
        bench.feed("a");
        Bench.due("the seventeenth unit", tongue.compile() + " " + tongue.count(0), "-8 0");
        bench.feed("a;");
        Bench.due("what reads none leaves it", tongue.start(1, 0) + " " + tongue.steps(1, 9) + " " + tongue.count(3) + " "
                + tongue.count(0),
                "true 7 16 2");
    }

    /** The fault of a source; a text with just this one token ahead of a ; that is due to go. */
    private static void fault(String text, int due) {
        Bench bench = new Bench();
        Bench.due("fault of " + text, bench.fault(text), due);
        Bench.due("units of " + text, bench.tongue.count(3), due < 0 ? 1 : 0);
    }

    private static void names() {
        Bench.about("term 1: a NAME");
        for (int c = 33; c < 127; c++) {
            boolean begins = c >= 'a' && c <= 'z' || c >= 'A' && c <= 'Z' || c == '_';
            boolean goesOn = begins || c >= '0' && c <= '9';
            Bench one = new Bench();
            one.compile((char) c + ";");
            Bench.due("a name " + (char) c, one.tongue.count(8), begins ? 1 : 0);
            Bench two = new Bench();
            two.compile("x = y" + (char) c + ";");
            boolean isOne = two.tongue.count(8) == 2 && two.name(1).length() == 2;
            Bench.due("in a name " + (char) c, isOne, goesOn);
        }
        fault(THIRTY + ";", -1);
        fault(THIRTY + "1;", 1);
        fault("a = " + THIRTY + "_;", 1 + 16 * 4);
        fault("_;", -1);
        fault("__9Zz;", -1);
        fault("fun " + THIRTY + "(" + THIRTY + ") { }", -1);
        Bench bench = new Bench();
        bench.compile("Zz_09; zZ;");
        Bench.due("names", bench.name(0) + " " + bench.name(1) + " " + bench.tongue.count(8), "Zz_09 zZ 2");
        bench = new Bench();
        bench.compile("printx; xprint; Print; iff; var_; _var; this1;");
        Bench.due("names that hold a keyword", bench.tongue.count(8), 7);
    }

    private static void numbers() {
        Bench.about("term 1: NUMBERS of 1 to 10 digits, at most 2147483647");
        fault("0;", -1);
        fault("2147483647;", -1);
        fault("2147483648;", 1);
        fault("9999999999;", 1);
        fault("0000000000;", -1);
        fault("02147483647;", 1);
        fault("10000000000;", 1);
        fault("00000000000;", 1);
        fault("a = 99999999999999999999999999999;", 1 + 16 * 4);
        Bench behind = new Bench();
        behind.compile("a = 99999999999999999999999999999;");
        Bench.due("ten digits at the end, where others were", behind.fault("a = 0000000000"), 1 + 16 * 14);
        Bench.due("a name at the end, where digits were", behind.fault("a = b"), 1 + 16 * 5);
        fault("12ab;", 1 + 16 * 2);
        fault("1.5;", 1 + 16 * 2);
        fault("1.a;", -1);
        Bench.due("2147483647", Bench.ran("return 2147483647;").end(0), "2 2 2147483647");
        Bench.due("0000000042", Bench.ran("return 0000000042;").end(0), "2 2 42");
        Bench.due("-2147483647 - 1", Bench.ran("return -2147483647 - 1;").end(0), "2 2 -2147483648");
    }

    private static void texts() {
        Bench.about("term 1: TEXTS of 0 to 60 signs 32 .. 126");
        fault("\"\";", -1);
        fault("\"" + SIXTY + "\";", -1);
        fault("\"" + SIXTY + "a\";", 1);
        fault("\"" + SIXTY + "\\n\";", 1);
        fault("\"" + Bench.times("\\\"", 60) + "\";", -1);
        fault("\"" + Bench.times("\\\\", 61) + "\";", 1);
        fault("\"" + Bench.times("\\n", 60) + "\";", -1);
        fault("a = \"" + SIXTY + SIXTY, 1 + 16 * 4);
        for (int c = 32; c < 127; c++) {
            fault("\"" + (char) c + "\";", c == '"' || c == '\\' ? 1 + (c == '"' ? 16 * 2 : 0) : -1);
            fault("\"\\" + (char) c + "\";", c == 'n' || c == '"' || c == '\\' ? -1 : 1);
        }
        fault("\"\n\";", 1);
        fault("\"\\\n\";", 1);
        fault("a = \"", 1 + 16 * 4);
        fault("a = \"b", 1 + 16 * 4);
        fault("a = \"b\\", 1 + 16 * 4);
        fault("a = \"b\\\"", 1 + 16 * 4);
        fault("a = \"b\\\";", 1 + 16 * 4);
        Bench bench = Bench.ran("return \"" + Bench.times("\\n", 60) + "\";");
        Bench.due("sixty signs", bench.end(0) + " " + bench.tongue.sign(0, 59) + " " + bench.tongue.sign(0, 60), "2 3 60 10 -1");
        Bench.due("a text of none", Bench.ran("return \"\";").end(0), "2 3 0");
        bench = Bench.ran("return \" ~\\n\\\"\\\\//;\";");
        Bench.due("what each sign is", bench.text(0), " ~\n\"\\//;");
    }

    private static void signs() {
        Bench.about("term 1: SIGNS, each as long as can be");
        fault("a<=b;", -1);
        fault("a< =b;", 1 + 16 * 3);
        fault("a>=b;", -1);
        fault("a==b;", -1);
        fault("a=b;", -1);
        fault("a= =b;", 1 + 16 * 3);
        fault("a===b;", 1 + 16 * 3);
        fault("a!=b;", -1);
        fault("a! =b;", 1 + 16);
        fault("a!==b;", 1 + 16 * 3);
        fault("a<==b;", 1 + 16 * 3);
        fault("a=!b;", -1);
        fault("a=-b;", -1);
        fault("a&&b;", -1);
        fault("a& &b;", 1 + 16);
        fault("a&&&b;", 1 + 16 * 3);
        fault("a||b;", -1);
        fault("a| |b;", 1 + 16);
        fault("a|||b;", 1 + 16 * 3);
        fault("a<b>c;", -1);
        fault("a<>b;", 1 + 16 * 2);
        fault("a=>b;", 1 + 16 * 2);
        fault("a--b;", -1);
        fault("a++b;", 1 + 16 * 2);
        fault("a.b..c;", 1 + 16 * 4);
        fault("fun f(a...) { }", 1 + 16 * 7);
        for (char c : "#$&'?@^`|~\\".toCharArray()) {
            fault("a " + c + " b;", 1 + 16 * 2);
            fault(c + ";", 1);
        }
        Bench.about("term 1: in a host's text besides ...");
        Bench bench = new Bench();
        Bench.due("...", bench.host("class A { void m(int...); }"), 0);
        Bench.due("with blanks", bench.host("class A { void m(int ... ); }"), 0);
        Bench.due(". . .", bench.host("class A { void m(int. . .); }"), 1 + 16 * 20);
        Bench.due("..", bench.host("class A { void m(int..); }"), 1 + 16 * 20);
        Bench.due("....", bench.host("class A { void m(int....); }"), 1 + 16 * 23);
        for (char c : "#$&'?@^`|~\\".toCharArray()) {
            Bench.due("a " + c, bench.host("class A " + c + "{ }"), 1 + 16 * 8);
        }
        for (String text : new String[] {"\"a\"", "7", "2147483648", "\"", "==", "&&", "-", "[", "%"}) {
            Bench.due("a " + text, bench.host("class A " + text + "{ }"), 1 + 16 * 8);
        }
        Bench.due("a name of 31", bench.host("class " + THIRTY + "b { }"), 1 + 16 * 6);
        Bench.due("a name of 30", bench.host("class " + THIRTY + " { }"), 0);
    }

    private static void blanksAndComments() {
        Bench.about("term 1: blanks and LFs stand between, and from // on a line says nothing");
        fault("", -1);
        fault(" \n \n", -1);
        fault("//", -1);
        fault("// # \" 99999999999 \\", -1);
        fault("//\n//\n", -1);
        fault("a//b\n;", -1);
        fault("a;//", -1);
        fault("a;///", -1);
        fault("a//;", 1 + 16 * 4);
        fault("a / / b;", 1 + 16 * 4);
        fault("a /b/ c;", -1);
        fault("a; // b\n#", 1 + 16 * 8);
        fault("a = \"//\";", -1);
        fault("a\n=\n1\n;\n", -1);
        fault("a=b /", 1 + 16 * 5);
        Bench bench = new Bench();
        Bench.due("a host's", bench.host("// class A { }\nclass B { // int a;\n}//"), 0);
        Bench.due("one class", bench.tongue.count(1) + " " + bench.tongue.count(2), "1 0");
    }

    private static void badTokens() {
        Bench.about("term 1: a fault 1 at its first sign, as is the text's end where more must come");
        fault("a", 1 + 16);
        fault("a ", 1 + 16 * 2);
        fault("a\n", 1 + 16 * 2);
        fault("a // b", 1 + 16 * 6);
        fault("(", 1 + 16);
        fault("if (a) {", 1 + 16 * 8);
        fault("\n\n#", 1 + 16 * 2);
        Bench.about("term 1: the first one going from left to right, of one token the least");
        fault("a b #", 1 + 16 * 2);
        fault("1 = # 2;", 2 + 16 * 2);
        fault("1 # = 2;", 1 + 16 * 2);
        fault("fun f(a, a #) { }", 3 + 16 * 9);
        fault("fun f(a, # a) { }", 1 + 16 * 9);
        fault("print(1, 2) # ;", 5 + 16 * 10);
        fault("print(1, # 2);", 1 + 16 * 9);
        fault(Bench.times("(", 51) + "#", 4 + 16 * 50);
        fault(Bench.times("(", 50) + "#", 1 + 16 * 50);
        Bench bench = new Bench();
        Bench.due("a host's", bench.host("class A : B { # }"), 3 + 16 * 10);
        Bench.due("a host's bad one first", bench.host("class A # : B { }"), 1 + 16 * 8);
        Bench.due("a host's end", bench.host("class A { } class "), 1 + 16 * 18);
    }
}
