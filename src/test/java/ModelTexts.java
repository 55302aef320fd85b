import java.util.ArrayList;
import java.util.HashSet;
import java.util.List;
import java.util.Set;

/** The model's way to read a host's text and a source, straight from terms 1 to 4. */
final class ModelTexts {
    static final List<String> TYPES = List.of("void", "int", "long", "bool", "Int", "Long", "Bool", "Text", "Any");
    static final List<String> KEYWORDS = List.of("var", "fun", "if", "else", "while", "return", "throw", "try", "catch", "new", "this",
            "null", "true", "false",
            "print", "make", "proto", "turn", "drop", "has", "kind", "host");
    private static final List<String> SIGNS = List.of("...", "==", "!=", "<=", ">=", "&&", "||", "(", ")", "{", "}", "[", "]", ",", ";",
            ".", ":", "=", "<", ">", "+", "-", "*", "/", "%", "!");
    private static final int[] WANTED = {1, 1, 1, 2, 2, 2, 1, 1};

    /** A fault, as host() tells it. */
    static final class Fault extends RuntimeException {
        private static final long serialVersionUID = 1;
        final int told;

        Fault(int kind, int place) {
            told = kind + 16 * place;
        }
    }

    /** A token: a sign or keyword as itself, else name, number, text, bad or end. */
    private static final class Token {
        final String kind;
        final String text;
        final int place;

        Token(String kind, String text, int place) {
            this.kind = kind;
            this.text = text;
            this.place = place;
        }
    }

    static final class Member {
        HostClass of;
        int number;
        int sort;
        boolean isStatic;
        int type;
        boolean isVariable;
        final List<Integer> parameters = new ArrayList<>();
        String name = "new";
    }

    static final class HostClass {
        int number;
        String name;
        boolean isInterface;
        HostClass above;
        int first;
        final List<HostClass> supers = new ArrayList<>();
        final List<Member> members = new ArrayList<>();
    }

    static final class Function {
        int unit;
        int number;
        Function around;
        int parameters;
        final List<String> variables = new ArrayList<>();
        /** Of each instruction OP, A, B and, of a name or text, that. */
        final List<int[]> code = new ArrayList<>();
        final List<String> words = new ArrayList<>();
    }

    private final String tape;
    private final boolean ofHost;
    private int at;
    private Token now;

    ModelTexts(String tape, boolean ofHost) {
        this.tape = tape;
        this.ofHost = ofHost;
        now = read();
    }

    // Tokens.

    private static boolean isLetter(char c) {
        return c >= 'a' && c <= 'z' || c >= 'A' && c <= 'Z' || c == '_';
    }

    private static boolean isDigit(char c) {
        return c >= '0' && c <= '9';
    }

    private Token read() {
        while (at < tape.length() && (tape.charAt(at) == ' ' || tape.charAt(at) == '\n' || tape.startsWith("//", at))) {
            if (tape.charAt(at) == '/') {
                int line = tape.indexOf('\n', at);
                at = line < 0 ? tape.length() : line;
            } else {
                at++;
            }
        }
        if (at == tape.length()) {
            return new Token("end", "", at);
        }
        int from = at;
        char c = tape.charAt(at);
        if (isLetter(c)) {
            while (at < tape.length() && (isLetter(tape.charAt(at)) || isDigit(tape.charAt(at)))) {
                at++;
            }
            String word = tape.substring(from, at);
            if (word.length() > 30) {
                return new Token("bad", "", from);
            }
            return !ofHost && KEYWORDS.contains(word) ? new Token(word, word, from) : new Token("name", word, from);
        }
        if (isDigit(c)) {
            while (at < tape.length() && isDigit(tape.charAt(at))) {
                at++;
            }
            String digits = tape.substring(from, at);
            boolean bad = digits.length() > 10 || Long.parseLong(digits) > Integer.MAX_VALUE;
            return new Token(bad ? "bad" : "number", digits, from);
        }
        if (c == '"') {
            return readText(from);
        }
        for (String sign : SIGNS) {
            if (tape.startsWith(sign, at) && (ofHost || !sign.equals("..."))) {
                at += sign.length();
                return new Token(sign, sign, from);
            }
        }
        return new Token("bad", "", from);
    }

    private Token readText(int from) {
        StringBuilder text = new StringBuilder();
        at++;
        while (at < tape.length() && tape.charAt(at) != '"') {
            char c = tape.charAt(at);
            if (c == '\n') {
                return new Token("bad", "", from);
            }
            if (c == '\\') {
                at++;
                c = at < tape.length() ? tape.charAt(at) : ' ';
                if (c != 'n' && c != '"' && c != '\\') {
                    return new Token("bad", "", from);
                }
                c = c == 'n' ? '\n' : c;
            }
            text.append(c);
            at++;
        }
        if (at >= tape.length() || text.length() > 60) {
            return new Token("bad", "", from);
        }
        at++;
        return new Token("text", text.toString(), from);
    }

    private void next() {
        now = read();
    }

    private Fault fault(int kind) {
        return new Fault(kind, now.place);
    }

    private boolean is(String kind) {
        return now.kind.equals(kind);
    }

    private Token take(String kind) {
        if (!is(kind)) {
            throw fault(1);
        }
        Token taken = now;
        next();
        return taken;
    }

    // A host.

    private final List<HostClass> classes = new ArrayList<>();
    private final List<Member> members = new ArrayList<>();

    List<Member> members() {
        return members;
    }

    private static boolean isReserved(String word) {
        return TYPES.contains(word) || List.of("class", "interface", "static", "new").contains(word);
    }

    private HostClass named(String name) {
        for (HostClass one : classes) {
            if (one.name.equals(name)) {
                return one;
            }
        }
        return null;
    }

    List<HostClass> readHost() {
        while (!is("end")) {
            if (!is("name") || !now.text.equals("class") && !now.text.equals("interface")) {
                throw fault(1);
            }
            HostClass one = new HostClass();
            one.isInterface = now.text.equals("interface");
            next();
            readClass(one);
        }
        return classes;
    }

    private void readClass(HostClass one) {
        if (!is("name")) {
            throw fault(1);
        }
        if (isReserved(now.text) || named(now.text) != null) {
            throw fault(2);
        }
        if (classes.size() == 60) {
            throw fault(5);
        }
        one.name = now.text;
        one.number = classes.size();
        one.first = members.size();
        next();
        if (is(":")) {
            next();
            readSuper(one);
            while (is(",")) {
                next();
                readSuper(one);
            }
        }
        classes.add(one);
        take("{");
        while (!is("}")) {
            readMember(one);
        }
        next();
    }

    private void readSuper(HostClass one) {
        if (!is("name")) {
            throw fault(1);
        }
        HostClass above = named(now.text);
        if (above == null) {
            throw fault(3);
        }
        if (one.supers.contains(above) || !above.isInterface && (one.isInterface || one.above != null)) {
            throw fault(4);
        }
        one.supers.add(above);
        if (!above.isInterface) {
            one.above = above;
        }
        next();
    }

    private int readType(boolean voidToo) {
        if (!is("name")) {
            throw fault(1);
        }
        int type = TYPES.indexOf(now.text);
        if (type < 0 && named(now.text) != null) {
            type = 9 + named(now.text).number;
        }
        if (type < 0 || type == 0 && !voidToo) {
            throw fault(3);
        }
        return type;
    }

    private void readMember(HostClass one) {
        Member member = new Member();
        if (is("name") && now.text.equals("static")) {
            if (one.isInterface) {
                throw fault(6);
            }
            member.isStatic = true;
            next();
        }
        boolean makes = is("name") && now.text.equals("new");
        if (makes && member.isStatic) {
            throw fault(1);
        }
        member.type = makes ? 9 + one.number : readType(true);
        if (members.size() == 400) {
            throw fault(5);
        }
        if (makes && one.isInterface) {
            throw fault(6);
        }
        next();
        member.of = one;
        member.number = members.size();
        member.sort = 2;
        if (!makes) {
            readNamed(one, member);
        }
        if (member.sort != 0) {
            readParameters(one, member);
        }
        take(";");
        members.add(member);
        one.members.add(member);
    }

    private void readNamed(HostClass one, Member member) {
        if (!is("name")) {
            throw fault(1);
        }
        Token name = now;
        if (isReserved(name.text)) {
            throw fault(2);
        }
        next();
        member.name = name.text;
        member.sort = is(";") && member.type != 0 ? 0 : 1;
        if (member.sort == 0) {
            for (Member other : one.members) {
                if (other.sort == 0 && other.name.equals(name.text)) {
                    throw new Fault(2, name.place);
                }
            }
            if (one.isInterface) {
                throw new Fault(6, name.place);
            }
        }
    }

    private void readParameters(HostClass one, Member member) {
        take("(");
        if (!is(")")) {
            readParameter(member);
            while (is(",") && !member.isVariable) {
                next();
                readParameter(member);
            }
        }
        if (!is(")")) {
            throw fault(1);
        }
        for (Member other : one.members) {
            if (other.sort == member.sort && other.name.equals(member.name) && other.parameters.equals(member.parameters)) {
                throw fault(7);
            }
        }
        next();
    }

    private void readParameter(Member member) {
        int type = readType(false);
        if (member.parameters.size() == 8) {
            throw fault(5);
        }
        member.parameters.add(type);
        next();
        if (is("...")) {
            member.isVariable = true;
            next();
        }
    }

    // A unit.

    private final List<Function> functions = new ArrayList<>();
    private final Set<String> newNames = new HashSet<>();
    private final Set<String> newTexts = new HashSet<>();
    private Model into;
    private Function current;
    private int instructions;
    private int sites;

    List<Function> readUnit(Model model) {
        into = model;
        if (model.functions.size() == 400) {
            boolean begins = is("end") || beginsE() && !is("{") || List.of("var", "if", "while", "return", "throw",
                    "try").contains(now.kind);
            throw fault(begins ? 7 : 1);
        }
        current = newFunction();
        readStatements(0);
        if (!is("end")) {
            throw fault(1);
        }
        endFunction();
        if (model.instructionCount() + instructions > 20000 || model.sites.size() + sites > 4000) {
            throw fault(7);
        }
        return functions;
    }

    private Function newFunction() {
        if (into.functions.size() + functions.size() == 400) {
            throw fault(7);
        }
        Function f = new Function();
        f.unit = into.units.size();
        f.number = into.functions.size() + functions.size();
        f.around = current;
        functions.add(f);
        return f;
    }

    private void endFunction() {
        emit(0, 0, 0, null);
        emit(29, 0, 0, null);
        current = current.around;
    }

    private int emit(int op, int a, int b, String word) {
        current.code.add(new int[] {op, a, b});
        current.words.add(word);
        instructions++;
        return current.code.size() - 1;
    }

    private void aim(int jump) {
        current.code.get(jump)[1] = current.code.size();
    }

    private void site(int kind, int es, String name) {
        emit(27, kind, es, name);
        sites++;
    }

    private void checkRoom(Set<String> more, List<String> told, String word) {
        if (!told.contains(word) && !more.contains(word) && told.size() + more.size() == 4000) {
            throw fault(7);
        }
    }

    /** Takes a name, of which there are 4000 at most. */
    private String takeName() {
        if (!is("name")) {
            throw fault(1);
        }
        checkRoom(newNames, into.names, now.text);
        if (!into.names.contains(now.text)) {
            newNames.add(now.text);
        }
        return take("name").text;
    }

    private String takeVariable() {
        if (is("name") && current.around != null && !current.variables.contains(now.text)) {
            if (current.variables.size() == 60) {
                throw fault(7);
            }
            current.variables.add(now.text);
        }
        return takeName();
    }

    /** Takes what holds: at most fifty of these are within one another. */
    private void open(String kind, int depth) {
        if (!is(kind)) {
            throw fault(1);
        }
        if (depth >= 50) {
            throw fault(4);
        }
        next();
    }

    private void readStatements(int depth) {
        while (!is("end") && !is("}")) {
            readStatement(depth);
        }
    }

    private void readBlock(int depth) {
        open("{", depth);
        readStatements(depth + 1);
        take("}");
    }

    private void readStatement(int depth) {
        String kind = now.kind;
        switch (kind) {
            case "var":
                next();
                String name = takeVariable();
                if (is("=")) {
                    next();
                    readE(depth);
                    emit(4, 0, 0, name);
                    emit(5, 0, 0, null);
                }
                take(";");
                break;
            case "fun":
                Function f = newFunction();
                next();
                String called = takeVariable();
                readFunction(f, depth);
                emit(24, f.number, 0, null);
                emit(4, 0, 0, called);
                emit(5, 0, 0, null);
                break;
            case "if":
                readIf(depth);
                break;
            case "while":
                next();
                int back = current.code.size();
                int out = readCondition(depth);
                readBlock(depth);
                emit(20, back, 0, null);
                aim(out);
                break;
            case "return":
            case "throw":
                next();
                if (kind.equals("return") && is(";")) {
                    emit(0, 0, 0, null);
                } else {
                    readE(depth);
                }
                take(";");
                emit(kind.equals("return") ? 29 : 30, 0, 0, null);
                break;
            case "try":
                readTry(depth);
                break;
            case "{":
                throw fault(1);
            default:
                readE(depth);
                take(";");
                emit(5, 0, 0, null);
                break;
        }
    }

    private int readCondition(int depth) {
        open("(", depth);
        readE(depth + 1);
        take(")");
        return emit(21, 0, 0, null);
    }

    private void readIf(int depth) {
        next();
        int not = readCondition(depth);
        readBlock(depth);
        if (!is("else")) {
            aim(not);
            return;
        }
        int over = emit(20, 0, 0, null);
        aim(not);
        next();
        if (is("if")) {
            readIf(depth);
        } else {
            readBlock(depth);
        }
        aim(over);
    }

    private void readTry(int depth) {
        next();
        int begin = emit(31, 0, 0, null);
        readBlock(depth);
        emit(32, 0, 0, null);
        int over = emit(20, 0, 0, null);
        aim(begin);
        take("catch");
        open("(", depth);
        emit(4, 0, 0, takeVariable());
        emit(5, 0, 0, null);
        take(")");
        readBlock(depth);
        aim(over);
    }

    private void readFunction(Function f, int depth) {
        open("(", depth);
        boolean more = !is(")");
        while (more) {
            if (is("name") && f.variables.contains(now.text)) {
                throw fault(3);
            }
            if (is("name") && f.variables.size() == 8) {
                throw fault(6);
            }
            f.variables.add(takeName());
            more = is(",");
            if (more) {
                next();
            }
        }
        take(")");
        f.parameters = f.variables.size();
        open("{", depth);
        current = f;
        readStatements(depth + 1);
        take("}");
        endFunction();
    }

    // Expressions. Each of these tells whether what it read is a TARGET: 0 none, 1 N, 2 . N, 3 [ e ].

    private void readE(int depth) {
        int target = readLevel(1, depth);
        if (!is("=")) {
            return;
        }
        if (target == 0) {
            throw fault(2);
        }
        open("=", depth);
        int last = current.code.size() - 1;
        current.code.remove(last);
        String name = current.words.remove(last);
        instructions--;
        sites -= target == 1 ? 0 : 1;
        readE(depth + 1);
        if (target == 1) {
            emit(4, 0, 0, name);
        } else {
            site(target == 2 ? 1 : 3, 0, name);
        }
    }

    private static final String[][] LEVELS = {{}, {"||"}, {"&&"}, {"==", "!="}, {"<", "<=", ">", ">="}, {"+", "-"}, {"*", "/", "%"}};
    private static final int[][] OPS = {{}, {22}, {23}, {14, 15}, {16, 17, 18, 19}, {7, 8}, {9, 10, 11}};

    private int readLevel(int level, int depth) {
        if (level == 7) {
            return readFront(depth);
        }
        int target = readLevel(level + 1, depth);
        for (int op = opHere(level); op >= 0; op = opHere(level)) {
            next();
            int jump = level < 3 ? emit(op, 0, 0, null) : -1;
            readLevel(level + 1, depth);
            if (level < 3) {
                aim(jump);
            } else {
                emit(op, 0, 0, null);
            }
            target = 0;
        }
        return target;
    }

    private int opHere(int level) {
        for (int i = 0; i < LEVELS[level].length; i++) {
            if (is(LEVELS[level][i])) {
                return OPS[level][i];
            }
        }
        return -1;
    }

    private int readFront(int depth) {
        if (!is("-") && !is("!")) {
            return readBehind(depth);
        }
        int op = is("-") ? 12 : 13;
        open(now.kind, depth);
        readFront(depth + 1);
        emit(op, 0, 0, null);
        return 0;
    }

    private int readBehind(int depth) {
        boolean making = is("new");
        if (making) {
            next();
        }
        int target = readFirst(depth);
        while (is(".") || is("[") || is("(")) {
            if (is("[")) {
                open("[", depth);
                readE(depth + 1);
                take("]");
                site(2, 0, null);
                target = 3;
            } else if (is("(")) {
                int es = readEs(depth);
                site(making ? 6 : 4, es, null);
                making = false;
                target = 0;
            } else {
                next();
                String name = takeName();
                target = 2;
                if (is("(") && !making) {
                    site(5, readEs(depth), name);
                    target = 0;
                } else {
                    site(0, 0, name);
                }
            }
        }
        if (making) {
            throw fault(1);
        }
        return target;
    }

    private boolean beginsE() {
        return List.of("number", "text", "name", "this", "null", "true", "false", "(", "fun", "[", "{", "new", "-", "!").contains(now.kind)
                || KEYWORDS.indexOf(now.kind) >= 14;
    }

    private int readEs(int depth) {
        int es = readEsUpTo(depth);
        take(")");
        return es;
    }

    private int readEsUpTo(int depth) {
        open("(", depth);
        int es = 0;
        boolean more = !is(")");
        while (more) {
            if (es == 8) {
                boolean holds = List.of("(", "[", "{", "-", "!").contains(now.kind);
                throw fault(!beginsE() ? 1 : holds && depth + 1 >= 50 ? 4 : 6);
            }
            readE(depth + 1);
            es++;
            more = is(",");
            if (more) {
                next();
            }
        }
        if (!is(")")) {
            throw fault(1);
        }
        return es;
    }

    private int readFirst(int depth) {
        int builtin = KEYWORDS.indexOf(now.kind) - 14;
        if (builtin >= 0) {
            next();
            if (readEsUpTo(depth) != WANTED[builtin]) {
                throw fault(5);
            }
            next();
            emit(28, builtin, 0, null);
            return 0;
        }
        switch (now.kind) {
            case "number":
                emit(0, 3, Integer.parseInt(now.text), null);
                next();
                return 0;
            case "text":
                checkRoom(newTexts, into.texts, now.text);
                if (!into.texts.contains(now.text)) {
                    newTexts.add(now.text);
                }
                emit(0, 4, 0, now.text);
                next();
                return 0;
            case "name":
                emit(3, 0, 0, takeName());
                return 1;
            case "this":
                emit(33, 0, 0, null);
                next();
                return 0;
            case "null":
            case "false":
            case "true":
                emit(0, List.of("null", "false", "true").indexOf(now.kind), 0, null);
                next();
                return 0;
            case "(":
                open("(", depth);
                readE(depth + 1);
                take(")");
                return 0;
            case "fun":
                Function f = newFunction();
                next();
                readFunction(f, depth);
                emit(24, f.number, 0, null);
                return 0;
            case "[":
                readList(depth);
                return 0;
            case "{":
                readObject(depth);
                return 0;
            default:
                throw fault(1);
        }
    }

    private void readList(int depth) {
        open("[", depth);
        int size = 0;
        boolean more = !is("]");
        while (more) {
            readE(depth + 1);
            size++;
            more = is(",");
            if (more) {
                next();
            }
        }
        take("]");
        emit(25, size, 0, null);
    }

    private void readObject(int depth) {
        open("{", depth);
        emit(26, 0, 0, null);
        boolean more = !is("}");
        while (more) {
            String name = takeName();
            take(":");
            emit(6, 0, 0, null);
            readE(depth + 1);
            site(1, 0, name);
            emit(5, 0, 0, null);
            more = is(",");
            if (more) {
                next();
            }
        }
        take("}");
    }

    /** All names and texts of a text in the order in which they come. */
    static List<List<String>> words(String tape) {
        ModelTexts reader = new ModelTexts(tape, false);
        List<String> names = new ArrayList<>();
        List<String> texts = new ArrayList<>();
        while (!reader.is("end")) {
            if (reader.is("name")) {
                names.add(reader.now.text);
            } else if (reader.is("text")) {
                texts.add(reader.now.text);
            }
            reader.next();
        }
        return List.of(names, texts);
    }
}
