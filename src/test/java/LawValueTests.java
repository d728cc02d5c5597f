import java.util.ArrayList;
import java.util.List;
import java.util.Random;
import java.util.TreeSet;

/**
 * What laws say, by trees that are drawn first and written out as texts then, so that nothing here reads a
 * text: each step of each house is compared with what the tree tells of its exchange.
 */
public final class LawValueTests {
    /** What can't be told. */
    private static final class Broken extends Exception {
        private static final long serialVersionUID = 1;
    }

    /** Left, right, one, other, apart, first, beans, day of one exchange. */
    private static final String[] WORDS = {"left", "right", "one", "other", "apart", "first", "beans", "day"};
    private static final long BOUND = 1000000000;
    private static final Check C = new Check();

    private final Random draw;
    private int parts = 0;

    private LawValueTests(long seed) {
        draw = new Random(seed);
    }

    // ---- trees

    private abstract static class Sum {
        abstract long of(int[] words) throws Broken;

        abstract String text();

        /** 0 a part, 1 a product, 2 a sum. */
        abstract int looseness();

        String within(int most) {
            return looseness() > most ? "[" + text() + "]" : text();
        }
    }

    private static final class Leaf extends Sum {
        private final int word;
        private final int number;

        Leaf(int word, int number) {
            this.word = word;
            this.number = number;
        }

        @Override
        long of(int[] words) {
            return word < 0 ? number : words[word];
        }

        @Override
        String text() {
            return word < 0 ? "" + number : WORDS[word];
        }

        @Override
        int looseness() {
            return 0;
        }
    }

    private static final class Joined extends Sum {
        private final char sign;
        private final Sum one;
        private final Sum other;

        Joined(char sign, Sum one, Sum other) {
            this.sign = sign;
            this.one = one;
            this.other = other;
        }

        @Override
        long of(int[] words) throws Broken {
            long a = one.of(words);
            long b = other.of(words);
            if (sign == '/' && b == 0) {
                throw new Broken();
            }
            long all = sign == '+' ? a + b : sign == '-' ? a - b : sign == '*' ? a * b : a / b;
            if (Math.abs(all) > BOUND) {
                throw new Broken();
            }
            return all;
        }

        @Override
        String text() {
            return one.within(looseness()) + sign + other.within(looseness() - 1);
        }

        @Override
        int looseness() {
            return sign == '+' || sign == '-' ? 2 : 1;
        }
    }

    private abstract static class Test {
        abstract boolean of(int[] words) throws Broken;

        abstract String text();

        /** 0 plain, 1 with "and", 2 with "or". */
        int looseness() {
            return 0;
        }

        String within(int most) {
            return looseness() > most ? "(" + text() + ")" : text();
        }
    }

    private static final class Compared extends Test {
        private final char sign;
        private final Sum one;
        private final Sum other;

        Compared(char sign, Sum one, Sum other) {
            this.sign = sign;
            this.one = one;
            this.other = other;
        }

        @Override
        boolean of(int[] words) throws Broken {
            long a = one.of(words);
            long b = other.of(words);
            return sign == '<' ? a < b : sign == '>' ? a > b : a == b;
        }

        @Override
        String text() {
            return one.text() + sign + other.text();
        }
    }

    private static final class Denied extends Test {
        private final Test test;

        Denied(Test test) {
            this.test = test;
        }

        @Override
        boolean of(int[] words) throws Broken {
            return !test.of(words);
        }

        @Override
        String text() {
            return "not " + test.within(0);
        }
    }

    private static final class Either extends Test {
        private final Test one;
        private final Test other;

        Either(Test one, Test other) {
            this.one = one;
            this.other = other;
        }

        @Override
        boolean of(int[] words) throws Broken {
            return one.of(words) || other.of(words);
        }

        @Override
        String text() {
            return one.within(2) + " or " + other.within(1);
        }

        @Override
        int looseness() {
            return 2;
        }
    }

    private static final class Both extends Test {
        private final Test one;
        private final Test other;

        Both(Test one, Test other) {
            this.one = one;
            this.other = other;
        }

        @Override
        boolean of(int[] words) throws Broken {
            return one.of(words) && other.of(words);
        }

        @Override
        String text() {
            return one.within(1) + " and " + other.within(0);
        }

        @Override
        int looseness() {
            return 1;
        }
    }

    private static final class Clause {
        private final String kind;
        private final Sum sum;
        private final Test test;

        Clause(String kind, Sum sum, Test test) {
            this.kind = kind;
            this.sum = sum;
            this.test = test;
        }

        String text() {
            return kind + (sum == null ? "" : " " + sum.text()) + (test == null ? "" : " if " + test.text());
        }

        boolean holds(int[] words) {
            try {
                if (sum != null) {
                    sum.of(words);
                }
                return test == null || test.of(words);
            } catch (Broken e) {
                return false;
            }
        }

        /** What its sum is, the nearest of 1 to 99. */
        int taken(int[] words) {
            try {
                return (int) Math.max(1, Math.min(99, sum.of(words)));
            } catch (Broken e) {
                throw new IllegalStateException(e);
            }
        }
    }

    // ---- drawing

    private Sum sum(int depth) {
        int kind = draw.nextInt(depth > 0 ? 9 : 4);
        if (kind < 4) {
            parts++;
            int[] numbers = {0, 1, 2, 3, draw.nextInt(12), draw.nextInt(100), 1000, 1000};
            return kind > 0 ? new Leaf(draw.nextInt(WORDS.length), 0) : new Leaf(-1, numbers[draw.nextInt(numbers.length)]);
        }
        return new Joined("+-*/".charAt(draw.nextInt(4)), sum(depth - 1), sum(depth - 1));
    }

    /** A sum that is, or is almost, beyond the bound, to one side or to the other. */
    private Sum edge() {
        Sum high = new Joined('*', new Joined('*', new Leaf(-1, 1000), new Leaf(-1, 1000)), new Leaf(-1, 1000));
        Sum far = draw.nextInt(2) == 0 ? high : new Joined('-', new Leaf(-1, 0), high);
        parts += 4;
        return new Joined(draw.nextInt(2) == 0 ? '+' : '-', far, sum(1));
    }

    private Test test(int depth) {
        int kind = draw.nextInt(depth > 0 ? 10 : 4);
        if (kind == 9) {
            return new Denied(test(depth - 1));
        }
        if (kind < 4) {
            Sum one = draw.nextInt(12) == 0 ? edge() : sum(2);
            return new Compared("<>=".charAt(draw.nextInt(3)), one, sum(draw.nextInt(2)));
        }
        return kind < 7 ? new Either(test(depth - 1), test(depth - 1)) : new Both(test(depth - 1), test(depth - 1));
    }

    private List<Clause> law() {
        List<Clause> clauses = new ArrayList<>();
        int many = 1 + draw.nextInt(5);
        for (int i = 0; i < many; i++) {
            String kind = new String[] {"takes", "takes", "lets", "bars"}[draw.nextInt(4)];
            Sum sum = kind.equals("takes") ? draw.nextInt(10) == 0 ? edge() : sum(3) : null;
            clauses.add(new Clause(kind, sum, draw.nextInt(5) == 0 ? null : test(1 + draw.nextInt(3))));
        }
        return clauses;
    }

    private static String textOf(List<Clause> law) {
        StringBuilder text = new StringBuilder();
        for (Clause clause : law) {
            text.append(text.length() == 0 ? "" : ";").append(clause.text());
        }
        return text.toString();
    }

    private static int brackets(String text) {
        int deep = 0;
        int deepest = 0;
        for (char sign : text.toCharArray()) {
            deep += sign == '[' || sign == '(' ? 1 : sign == ']' || sign == ')' ? -1 : 0;
            deepest = Math.max(deepest, deep);
        }
        return deepest;
    }

    // ---- houses

    private static void orders(String row, String left, TreeSet<String> all) {
        if (left.isEmpty()) {
            all.add(row);
        }
        for (int i = 0; i < left.length(); i++) {
            orders(row + left.charAt(i), left.substring(0, i) + left.substring(i + 1), all);
        }
    }

    /** What an exchange takes, 0 if it is not let. */
    private static int verdict(List<Clause> law, int[] words) {
        boolean lets = false;
        boolean let = false;
        boolean barred = false;
        int taken = 1;
        for (Clause clause : law) {
            boolean holds = clause.holds(words);
            lets = lets || clause.kind.equals("lets");
            let = let || (holds && clause.kind.equals("lets"));
            barred = barred || (holds && clause.kind.equals("bars"));
            taken = holds && clause.kind.equals("takes") ? clause.taken(words) : taken;
        }
        return (lets ? let : words[4] == 1) && !barred ? taken : 0;
    }

    private static void holdHouse(BeanStreet x, List<Clause> law, List<String> rows, int house, int day) {
        String row = rows.get(house);
        int found = 0;
        for (int left = 0; left < row.length(); left++) {
            for (int right = left + 1; right < row.length(); right++) {
                char[] beans = row.toCharArray();
                int[] words = {left, right, beans[left] - '0', beans[right] - '0', right - left, beans[0] - '0',
                    row.length(), day};
                beans[left] = row.charAt(right);
                beans[right] = row.charAt(left);
                int taken = verdict(law, words);
                if (taken > 0 && words[2] != words[3]) {
                    C.due("step(" + house + ", " + found + ", 0)", x.step(house, found, 0), rows.indexOf(new String(beans)));
                    C.due("step(" + house + ", " + found + ", 1)", x.step(house, found, 1), taken);
                    found++;
                }
            }
        }
        C.due("step(" + house + ", -1, 0)", x.step(house, -1, 0), found);
    }

    /** Whether there is room for the law that was drawn. */
    private boolean holdLaw() {
        List<Clause> law = law();
        String text = textOf(law);
        if (text.length() > 400 || parts > 50 || brackets(text) > 8) {
            return false;
        }
        StringBuilder beans = new StringBuilder();
        for (int i = 2 + draw.nextInt(3); i > 0; i--) {
            beans.append(draw.nextInt(5));
        }
        TreeSet<String> all = new TreeSet<>();
        orders("", beans.toString(), all);
        List<String> rows = new ArrayList<>(all);
        int day = draw.nextInt(100);
        C.about("\"" + text + "\", beans " + beans + ", day " + day);
        BeanStreet x = Check.withRow(beans.chars().map(sign -> sign - '0').toArray());
        x.terms(1, day);
        C.due("law()", Check.law(x, text), 0);
        x.force(0);
        for (int house = 0; house < rows.size(); house++) {
            holdHouse(x, law, rows, house, day);
        }
        return true;
    }

    public static void main(String[] args) {
        int many = args.length > 0 ? Integer.parseInt(args[0]) : 20000;
        long seed = args.length > 1 ? Long.parseLong(args[1]) : 1;
        int held = 0;
        for (int i = 0; i < many; i++) {
            held += new LawValueTests(seed * 1000003L + i).holdLaw() ? 1 : 0;
        }
        C.about("all");
        C.isTrue(held + " of the laws were held", held > many / 2);
        System.out.println(held + " laws");
        C.finish();
    }
}
