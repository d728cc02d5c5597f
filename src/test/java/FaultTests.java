import java.util.ArrayList;
import java.util.Arrays;
import java.util.List;
import java.util.Random;

/**
 * Where a law's text can't go on, told token by token by what may stand next alone (and not by a reader that
 * calls itself): rows of up to nine tokens of which there is one of each kind, and longer texts that are drawn.
 */
public final class FaultTests {
    /** One of each kind: rows of up to nine of these are tried, all that differ up to their fault. */
    private static final String[] FEW = {"takes", "lets", "if", "or", "not", "one", "12", ";", "(", ")", "[", "]", "=", "-"};
    private static final String[] ALL = {"takes", "lets", "bars", "if", "or", "and", "not", "left", "right", "one", "other",
        "apart", "first", "beans", "day", "0", "7", "1000", "01000", "1001", "99999999", "dew", "le", "Lets", ";", "(", ")",
        "[", "]", "<", ">", "=", "+", "-", "*", "/", "!", "{", "\t", "\u00e9"};

    private enum Next { CLAUSE, HEAD_DONE, PLAIN, OPERAND, OPERAND_DONE, TEST_DONE }

    private enum Side { TAKEN, LEFT, RIGHT }

    private static final Check C = new Check();
    private static BeanStreet x = new BeanStreet();
    /** An object is used for at most 512 calls; a text of 400 bytes is put there by twenty-one. */
    private static int calls = 512;
    private static final int OTHER = 3;
    /** How many texts had a fault of each kind, and none. */
    private static int[] tally = new int[5];

    private final StringBuilder open = new StringBuilder();
    private Next next = Next.CLAUSE;
    private Side side = Side.TAKEN;
    private int clauses = 0;
    private int parts = 0;

    private FaultTests() {
    }

    private FaultTests copy() {
        FaultTests other = new FaultTests();
        other.open.append(open);
        other.next = next;
        other.side = side;
        other.clauses = clauses;
        other.parts = parts;
        return other;
    }

    // ---- what may stand next

    /** Whether the text may go on so; if it may, it does. */
    private boolean goesOn(String token) {
        switch (next) {
            case CLAUSE:
                return clauseBegins(token);
            case PLAIN:
                return plainBegins(token);
            case OPERAND:
                return operand(token);
            case OPERAND_DONE:
                return behindOperand(token);
            default:
                return behindClauseOrTest(token);
        }
    }

    private boolean to(Next then) {
        next = then;
        return true;
    }

    private boolean clauseBegins(String token) {
        clauses++;
        side = Side.TAKEN;
        if (clauses > 12) {
            return false;
        }
        if (token.equals("takes")) {
            return to(Next.OPERAND);
        }
        return (token.equals("lets") || token.equals("bars")) && to(Next.HEAD_DONE);
    }

    private boolean opens(String token, Next then) {
        open.append(token);
        return open.length() <= 8 && to(then);
    }

    private boolean plainBegins(String token) {
        if (token.equals("not")) {
            return true;
        }
        if (token.equals("(")) {
            return opens(token, Next.PLAIN);
        }
        side = Side.LEFT;
        return operand(token);
    }

    private boolean operand(String token) {
        if (token.equals("[")) {
            return opens(token, Next.OPERAND);
        }
        boolean number = token.matches("[0-9]+") && Integer.parseInt(token) <= 1000;
        if (!number && !token.matches("left|right|one|other|apart|first|beans|day")) {
            return false;
        }
        parts++;
        return parts <= 50 && to(Next.OPERAND_DONE);
    }

    private boolean isOpen(char bracket) {
        return open.length() > 0 && open.charAt(open.length() - 1) == bracket;
    }

    private boolean closes(char bracket, Next then) {
        if (!isOpen(bracket)) {
            return false;
        }
        open.setLength(open.length() - 1);
        return to(then);
    }

    private boolean behindOperand(String token) {
        if (token.matches("[-+*/]")) {
            return to(Next.OPERAND);
        }
        if (isOpen('[')) {
            return token.equals("]") && closes('[', Next.OPERAND_DONE);
        }
        if (side != Side.LEFT) {
            return behindClauseOrTest(token);
        }
        if (token.matches("[<>=]")) {
            side = Side.RIGHT;
            return to(Next.OPERAND);
        }
        return false;
    }

    private boolean behindClauseOrTest(String token) {
        boolean tested = next == Next.TEST_DONE || side == Side.RIGHT;
        if (token.equals("if")) {
            return !tested && to(Next.PLAIN);
        }
        if (token.equals("or") || token.equals("and")) {
            return tested && to(Next.PLAIN);
        }
        if (token.equals(")")) {
            return closes('(', Next.TEST_DONE);
        }
        return token.equals(";") && open.length() == 0 && to(Next.CLAUSE);
    }

    private boolean mayEnd() {
        boolean summed = next == Next.OPERAND_DONE && side != Side.LEFT;
        return open.length() == 0 && (summed || next == Next.HEAD_DONE || next == Next.TEST_DONE);
    }

    /** Behind a fault: a clause too many (0), a part (1), a bracket (2), another one. */
    private int fault() {
        return clauses > 12 ? 0 : parts > 50 ? 1 : open.length() > 8 ? 2 : OTHER;
    }

    /** A token that leads towards the end. */
    private String ending() {
        switch (next) {
            case CLAUSE:
                return "lets";
            case PLAIN:
            case OPERAND:
                return "day";
            default:
                return isOpen('[') ? "]" : next == Next.OPERAND_DONE && side == Side.LEFT ? "<" : ")";
        }
    }

    // ---- texts

    /** So many blanks stand ahead of each token, and behind the last. */
    private static void hold(String[] tokens, int[] blanks) {
        FaultTests reader = new FaultTests();
        StringBuilder text = new StringBuilder();
        int want = -1;
        for (int i = 0; i < tokens.length; i++) {
            text.append(" ".repeat(blanks[i]));
            if (want < 0 && !reader.goesOn(tokens[i])) {
                want = text.length();
            }
            text.append(tokens[i]);
        }
        text.append(" ".repeat(blanks[tokens.length]));
        tally[want < 0 ? OTHER + 1 : reader.fault()]++;
        hold(text.toString(), want < 0 && !reader.mayEnd() ? text.length() : want);
    }

    private static void hold(String text, int want) {
        if (calls > 470) {
            x = new BeanStreet();
            x.image(0);
            calls = 1;
        }
        int law = Check.law(x, text);
        int fault = x.fault();
        if (law != (want < 0 ? 0 : -6) || fault != want) {
            C.due("fault of \"" + text + "\"", fault, want);
            C.due("law of it", law, want < 0 ? 0 : -6);
        }
        if (law == 0) {
            x.back(0);
        }
        calls += text.length() / 20 + 6;
    }

    /** How many rows of tokens were tried that begin with these: all, but that a fault has one token behind it at most. */
    private static int everyRow(FaultTests reader, String[] ahead, int more) {
        int[] blanks = new int[ahead.length + 1];
        Arrays.fill(blanks, 1);
        hold(ahead, blanks);
        int held = 1;
        String[] longer = Arrays.copyOf(ahead, ahead.length + 1);
        for (int i = 0; i < FEW.length && more > 0; i++) {
            longer[ahead.length] = FEW[i];
            FaultTests then = reader.copy();
            boolean good = more > 1 && then.goesOn(FEW[i]);
            held += everyRow(then, longer, good ? more - 1 : more > 1 ? 1 : 0);
        }
        return held;
    }

    /** Tokens that may stand there; then what ends the text, or what may not. */
    private static List<String> drawnTokens(Random draw) {
        List<String> tokens = new ArrayList<>();
        FaultTests reader = new FaultTests();
        int most = draw.nextInt(draw.nextInt(2) == 0 ? 130 : 20);
        String[] dear = {"", "[(\\[]|not", "[-+*/]|7", ";|lets"};
        String kind = dear[draw.nextInt(dear.length)];
        for (int tries = 0; tokens.size() < most && tries < 1000; tries++) {
            String token = ALL[draw.nextInt(ALL.length)];
            boolean wanted = kind.isEmpty() || token.matches(kind) || draw.nextInt(12) == 0;
            FaultTests longer = reader.copy();
            if (wanted && longer.goesOn(token)) {
                reader = longer;
                tokens.add(token);
            } else if (wanted && longer.fault() < OTHER && draw.nextInt(3) == 0) {
                tokens.add(token);
                return tokens;
            }
        }
        if (draw.nextInt(2) == 0) {
            tokens.add(ALL[draw.nextInt(ALL.length)]);
            if (!reader.goesOn(tokens.get(tokens.size() - 1))) {
                return tokens;
            }
        }
        boolean good = true;
        while (good && !reader.mayEnd()) {
            tokens.add(reader.ending());
            good = reader.goesOn(tokens.get(tokens.size() - 1));
        }
        return tokens;
    }

    private static boolean joins(String one, String other) {
        return (one + "|" + other).matches(".*[a-z]\\|[a-z].*|.*[0-9]\\|[0-9].*");
    }

    private static int[] drawnBlanks(Random draw, List<String> tokens) {
        int[] blanks = new int[tokens.size() + 1];
        for (int i = 0; i <= tokens.size(); i++) {
            boolean needed = i > 0 && i < tokens.size() && joins(tokens.get(i - 1), tokens.get(i));
            blanks[i] = draw.nextInt(8) == 0 ? 1 + draw.nextInt(3) : needed ? 1 : 0;
        }
        return blanks;
    }

    private static void drawnTexts(Random draw, int many) {
        tally = new int[5];
        for (int i = 0; i < many; i++) {
            List<String> tokens = drawnTokens(draw);
            int[] blanks = drawnBlanks(draw, tokens);
            int bytes = String.join("", tokens).length() + Arrays.stream(blanks).sum();
            if (bytes <= 400) {
                hold(tokens.toArray(new String[0]), blanks);
            }
        }
        System.out.println(many + " drawn texts: " + Arrays.toString(tally));
        C.isTrue("some of each kind", Arrays.stream(tally).min().getAsInt() > many / 200);
    }

    public static void main(String[] args) {
        int rows = everyRow(new FaultTests(), new String[0], 9);
        System.out.println(rows + " rows of up to nine tokens");
        C.isTrue("many rows", rows > 100000);
        int many = args.length > 0 ? Integer.parseInt(args[0]) : 10000;
        drawnTexts(new Random(args.length > 1 ? Long.parseLong(args[1]) : 1), many);
        C.finish();
    }
}
