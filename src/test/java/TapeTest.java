/** Promises 1 and 2: a new object, and feeding its tape; term 1: its tokens. */
public final class TapeTest {
    public static void main(String[] args) {
        newObject();
        feeding();
        tokens();
        Bench.end();
    }

    private static void newObject() {
        Bench.about("promise 1");
        Face tongue = new Face.Real();
        for (int what = 0; what <= 17; what++) {
            Bench.due("count(" + what + ")", tongue.count(what), what == 12 ? 1 : 0);
        }
        for (int what = 20; what <= 23; what++) {
            Bench.due("count(" + what + ")", tongue.count(what), 0);
        }
        Bench.due("task(0, 0)", tongue.task(0, 0), 0);
        Bench.due("task(1, 0)", tongue.task(1, 0), 0);
        Bench.due("start(0, 0)", tongue.start(0, 0), false);
        Bench.due("type(0, 0)", tongue.type(0, 0), -1);
        Bench.due("shape(0, 0)", tongue.shape(0, 0), -1);
        Bench.due("shape(0, 1)", tongue.shape(0, 1), 0);
        Bench.due("shape(1, 1)", tongue.shape(1, 1), -1);
        Bench.due("NONE", LinkedTongue.NONE, -1);
    }

    private static void feeding() {
        Bench.about("promise 2");
        Face tongue = new Face.Real();
        Bench.due("no signs", tongue.feed(0, 0), 0);
        Bench.due("one sign, low", tongue.feed(0, 'a'), 1);
        Bench.due("one sign, high", tongue.feed((long) '1' << 56, 0), 2);
        Bench.due("zeros between", tongue.feed(0x2000000000000020L, 0x0A00007E00000000L), 6);
        Bench.due("a 31", tongue.feed(31, 0), -1);
        Bench.due("a 127", tongue.feed(0, 127), -1);
        Bench.due("a 9", tongue.feed(0x2009000000000000L, 0), -1);
        Bench.due("a 255", tongue.feed(-1, -1), -1);
        Bench.due("a bad one last", tongue.feed(0x2020202020202020L, 0x2020202020202001L), -1);
        Bench.due("count(0)", tongue.count(0), 6);

        Bench.about("promise 2, order");
        Bench bench = new Bench();
        bench.tongue.feed(0x7072696E74282241L, 0x42434445464748L);
        bench.tongue.feed(0x22293BL, 0);
        Bench.due("compile()", bench.tongue.compile(), 0);
        bench.runUnit(0, 0);
        Bench.due("output", bench.output(), "ABCDEFGH\n");
    }

    private static void tokens() {
        Bench.about("term 1");
        String thirty = "a23456789_123456789_123456789_";
        String sixty = thirty + thirty;
        Bench bench = new Bench();
        Bench.due("a name of 30", bench.fault(thirty + ";"), -1);
        Bench.due("a name of 31", bench.fault(" " + thirty + "x;"), 1 + 16);
        Bench.due("the greatest number", bench.fault("2147483647;"), -1);
        Bench.due("too great a number", bench.fault("2147483648;"), 1);
        Bench.due("ten digits", bench.fault("0000000001;"), -1);
        Bench.due("eleven digits", bench.fault("00000000001;"), 1);
        Bench.due("a text of 60", bench.fault("\"" + sixty + "\";"), -1);
        Bench.due("a text of 61", bench.fault("\"" + sixty + "x\";"), 1);
        Bench.due("60 with signs behind \\", bench.fault("\"" + sixty.substring(2) + "\\n\\\"\";"), -1);
        Bench.due("61 with signs behind \\", bench.fault("\"" + sixty + "\\\\\";"), 1);
        Bench.due("another sign behind \\", bench.fault("a = \"b\\t\";"), 1 + 16 * 4);
        Bench.due("a text with a LF", bench.fault("a = \"b\n\";"), 1 + 16 * 4);
        Bench.due("a text without its end", bench.fault("a = \"b"), 1 + 16 * 4);
        Bench.due("a text with \\ at the end", bench.fault("a = \"b\\"), 1 + 16 * 4);
        Bench.due("a lone &", bench.fault("a & b;"), 1 + 16 * 2);
        Bench.due("a lone |", bench.fault("a | b;"), 1 + 16 * 2);
        Bench.due("a sign of none", bench.fault("a # b;"), 1 + 16 * 2);
        Bench.due("comments", bench.fault("a // b & c\n; // \""), -1);
        Bench.due("a comment to the end", bench.fault("a //"), 1 + 16 * 4);
        Bench.due("the text's end", bench.fault("a = b  \n "), 1 + 16 * 9);
        Bench.due("an earlier fault comes first", bench.fault("a a & \""), 1 + 16 * 2);
        Bench.due("as long as can be", bench.fault("a<=b; a===b;"), 1 + 16 * 9);
        Bench.due("three dots in a source", bench.fault("a...b;"), 1 + 16 * 2);
        Bench.due("no units but the right ones", bench.tongue.count(3), 6);
        Bench.due("an escaped text", Bench.ran("print(\"a\\n\\\"\\\\//\");").output(), "a\n\"\\//\n");
    }
}
