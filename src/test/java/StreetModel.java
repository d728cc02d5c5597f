import java.math.BigInteger;
import java.util.ArrayList;
import java.util.Arrays;
import java.util.HashMap;
import java.util.HashSet;
import java.util.List;
import java.util.Map;
import java.util.Set;
import java.util.TreeSet;
import java.util.function.ToLongFunction;

/** The document once more, as plainly and slowly as can be, to compare the class with. */
public final class StreetModel {
    static final int NONE = -1;

    static final class Broken extends RuntimeException {
        private static final long serialVersionUID = 1L;
    }

    static final class Fault extends RuntimeException {
        private static final long serialVersionUID = 1L;
        final int place;

        Fault(int place) {
            this.place = place;
        }
    }

    record Clause(String kind, ToLongFunction<Map<String, Integer>> sum, ToLongFunction<Map<String, Integer>> test) {
        boolean holds(Map<String, Integer> words) {
            try {
                if (sum != null) {
                    sum.applyAsLong(words);
                }
                return test == null || test.applyAsLong(words) != 0;
            } catch (Broken b) {
                return false;
            }
        }
    }

    record Token(String text, int place) {
    }

    record Step(int to, int takes) {
    }

    static final class Kept {
        int[] beans = new int[5];
        int turn;
        int day;
        List<List<Clause>> laws = new ArrayList<>();
        int force = NONE;
        List<Set<Integer>> walls = new ArrayList<>();
        List<int[]> clues = new ArrayList<>();
        List<int[]> swaps = new ArrayList<>();

        Kept copy() {
            Kept k = new Kept();
            k.beans = beans.clone();
            k.turn = turn;
            k.day = day;
            k.laws = new ArrayList<>(laws);
            k.force = force;
            k.walls = new ArrayList<>(walls);
            k.clues = new ArrayList<>(clues);
            k.swaps = new ArrayList<>(swaps);
            return k;
        }
    }

    private Kept s = new Kept();
    private final Kept[] images = new Kept[2];
    private List<Integer> tape = new ArrayList<>();
    private int fault = NONE;
    private int status = 0;
    private final Map<Integer, Integer> refused = new HashMap<>();
    private Map<Integer, Integer> drunk = null;

    private int no(int by) {
        status = by;
        refused.merge(by, 1, Integer::sum);
        return by;
    }

    private int yes(int answer) {
        status = 0;
        return answer;
    }

    private int places() {
        return Arrays.stream(s.beans).sum();
    }

    private List<String> all() {
        TreeSet<String> found = new TreeSet<>();
        orders("", s.beans.clone(), found);
        return new ArrayList<>(found);
    }

    private static void orders(String head, int[] left, TreeSet<String> found) {
        boolean more = false;
        for (int c = 0; c < 5; c++) {
            if (left[c] > 0) {
                more = true;
                left[c]--;
                orders(head + c, left, found);
                left[c]++;
            }
        }
        if (!more) {
            found.add(head);
        }
    }

    private boolean is(int house) {
        return house >= 0 && house < all().size();
    }

    public int beans(int colour, int many) {
        if (colour < 0 || colour > 4 || many < 0 || many > 7 || places() - s.beans[colour] + many > 7) {
            return no(-1);
        }
        int was = s.beans[colour];
        s.beans[colour] = many;
        newBeans();
        return yes(was);
    }

    private void newBeans() {
        s.walls.clear();
        s.clues.clear();
        s.swaps.removeIf(w -> w[1] >= places());
    }

    public int houses() {
        return all().size();
    }

    public int code(int house) {
        if (!is(house)) {
            return NONE;
        }
        String row = all().get(house);
        return row.isEmpty() ? 0 : Integer.parseInt(row, 5);
    }

    public int house(int code) {
        for (int h = 0; h < houses(); h++) {
            if (code(h) == code) {
                return h;
            }
        }
        return NONE;
    }

    public int terms(int what, int value) {
        if (what == 0 && (value == 0 || value == 1)) {
            int was = s.turn;
            s.turn = value;
            return yes(was);
        }
        if (what == 1 && value >= 0 && value <= 99) {
            int was = s.day;
            s.day = value;
            return yes(was);
        }
        return no(-1);
    }

    public int feed(int a, int b, int c, int d, int e) {
        if (tape.size() + 20 > 400) {
            return NONE;
        }
        for (int n : new int[] {a, b, c, d, e}) {
            tape.add(n >>> 24);
            tape.add((n >>> 16) % 256);
            tape.add((n >>> 8) % 256);
            tape.add(n & 0xff);
        }
        return tape.size();
    }

    public int end(int n) {
        if (n < 0 || n > tape.size()) {
            return NONE;
        }
        tape = new ArrayList<>(tape.subList(0, n));
        return n;
    }

    public int row() {
        List<Integer> text = tape;
        tape = new ArrayList<>();
        if (text.isEmpty() || text.size() > 7 || text.stream().anyMatch(b -> b > 4)) {
            return no(-6);
        }
        s.beans = new int[5];
        StringBuilder b = new StringBuilder();
        for (int c : text) {
            s.beans[c]++;
            b.append(c);
        }
        newBeans();
        return yes(all().indexOf(b.toString()));
    }

    // ---- laws

    private static final Set<String> WORDS =
            Set.of("left", "right", "one", "other", "apart", "first", "beans", "day");

    private static List<Token> tokens(List<Integer> text) {
        StringBuilder b = new StringBuilder();
        text.forEach(c -> b.append((char) (int) c));
        java.util.regex.Matcher m =
                java.util.regex.Pattern.compile("[a-z]+|[0-9]+|[^ ]", java.util.regex.Pattern.DOTALL).matcher(b);
        List<Token> found = new ArrayList<>();
        while (m.find()) {
            found.add(new Token(m.group(), m.start()));
        }
        found.add(new Token("", text.size()));
        return found;
    }

    private static final class LawReader {
        final List<Token> tokens;
        int at = 0;
        int parts = 0;
        int open = 0;

        LawReader(List<Token> tokens) {
            this.tokens = tokens;
        }

        String peek() {
            return tokens.get(at).text();
        }

        Fault fault() {
            return new Fault(tokens.get(at).place());
        }

        boolean eat(String text) {
            if (peek().equals(text)) {
                at++;
                return true;
            }
            return false;
        }

        void need(String text) {
            if (!eat(text)) {
                throw fault();
            }
        }

        List<Clause> law() {
            List<Clause> clauses = new ArrayList<>();
            do {
                if (clauses.size() == 12) {
                    throw fault();
                }
                clauses.add(clause());
            } while (eat(";"));
            if (!peek().isEmpty()) {
                throw fault();
            }
            return clauses;
        }

        Clause clause() {
            String kind = peek();
            if (!kind.equals("takes") && !kind.equals("lets") && !kind.equals("bars")) {
                throw fault();
            }
            at++;
            ToLongFunction<Map<String, Integer>> sum = kind.equals("takes") ? sum() : null;
            return new Clause(kind, sum, eat("if") ? test() : null);
        }

        ToLongFunction<Map<String, Integer>> test() {
            ToLongFunction<Map<String, Integer>> left = both();
            while (eat("or")) {
                ToLongFunction<Map<String, Integer>> l = left;
                ToLongFunction<Map<String, Integer>> r = both();
                left = w -> l.applyAsLong(w) != 0 ? 1 : r.applyAsLong(w);
            }
            return left;
        }

        ToLongFunction<Map<String, Integer>> both() {
            ToLongFunction<Map<String, Integer>> left = plain();
            while (eat("and")) {
                ToLongFunction<Map<String, Integer>> l = left;
                ToLongFunction<Map<String, Integer>> r = plain();
                left = w -> l.applyAsLong(w) == 0 ? 0 : r.applyAsLong(w);
            }
            return left;
        }

        void opens() {
            if (open == 8) {
                throw fault();
            }
            open++;
            at++;
        }

        ToLongFunction<Map<String, Integer>> plain() {
            if (eat("not")) {
                ToLongFunction<Map<String, Integer>> p = plain();
                return w -> 1 - p.applyAsLong(w);
            }
            if (peek().equals("(")) {
                opens();
                ToLongFunction<Map<String, Integer>> t = test();
                need(")");
                open--;
                return t;
            }
            ToLongFunction<Map<String, Integer>> l = sum();
            String sign = peek();
            if (!sign.equals("<") && !sign.equals(">") && !sign.equals("=")) {
                throw fault();
            }
            at++;
            ToLongFunction<Map<String, Integer>> r = sum();
            return w -> {
                int c = Long.compare(l.applyAsLong(w), r.applyAsLong(w));
                return sign.equals("<") ? (c < 0 ? 1 : 0) : sign.equals(">") ? (c > 0 ? 1 : 0) : c == 0 ? 1 : 0;
            };
        }

        static long checked(long n) {
            if (n > 1000000000L || n < -1000000000L) {
                throw new Broken();
            }
            return n;
        }

        ToLongFunction<Map<String, Integer>> sum() {
            ToLongFunction<Map<String, Integer>> left = term();
            while (peek().equals("+") || peek().equals("-")) {
                boolean plus = peek().equals("+");
                at++;
                ToLongFunction<Map<String, Integer>> l = left;
                ToLongFunction<Map<String, Integer>> r = term();
                left = w -> checked(plus ? l.applyAsLong(w) + r.applyAsLong(w) : l.applyAsLong(w) - r.applyAsLong(w));
            }
            return left;
        }

        ToLongFunction<Map<String, Integer>> term() {
            ToLongFunction<Map<String, Integer>> left = part();
            while (peek().equals("*") || peek().equals("/")) {
                boolean times = peek().equals("*");
                at++;
                ToLongFunction<Map<String, Integer>> l = left;
                ToLongFunction<Map<String, Integer>> r = part();
                left = w -> {
                    long a = l.applyAsLong(w);
                    long b = r.applyAsLong(w);
                    if (times) {
                        return checked(a * b);
                    }
                    if (b == 0) {
                        throw new Broken();
                    }
                    return a / b;
                };
            }
            return left;
        }

        ToLongFunction<Map<String, Integer>> part() {
            String t = peek();
            if (t.equals("[")) {
                opens();
                ToLongFunction<Map<String, Integer>> inner = sum();
                need("]");
                open--;
                return inner;
            }
            boolean digits = t.matches("[0-9]+");
            if ((!digits && !WORDS.contains(t)) || parts == 50) {
                throw fault();
            }
            if (digits && new BigInteger(t).compareTo(BigInteger.valueOf(1000)) > 0) {
                throw fault();
            }
            parts++;
            at++;
            if (digits) {
                long n = new BigInteger(t).longValue();
                return w -> n;
            }
            return w -> w.get(t);
        }
    }

    public int law() {
        List<Integer> text = tape;
        tape = new ArrayList<>();
        if (s.laws.size() == 6) {
            return no(-5);
        }
        try {
            List<Clause> law = new LawReader(tokens(text)).law();
            fault = NONE;
            s.laws.add(law);
            return yes(s.laws.size() - 1);
        } catch (Fault f) {
            fault = f.place;
            return no(-6);
        }
    }

    public int fault() {
        return fault;
    }

    public int force(int law) {
        if (law < -1 || law >= s.laws.size()) {
            return no(-2);
        }
        int was = s.force;
        s.force = law;
        return yes(was);
    }

    public int wall(int one, int other) {
        if (!is(one) || !is(other)) {
            return no(-2);
        }
        if (one == other || s.walls.contains(Set.of(one, other))) {
            return no(-3);
        }
        if (s.walls.size() == 8) {
            return no(-5);
        }
        s.walls.add(Set.of(one, other));
        return yes(s.walls.size());
    }

    public int breach(int one, int other) {
        if (!is(one) || !is(other)) {
            return no(-2);
        }
        if (one == other || !s.walls.remove(Set.of(one, other))) {
            return no(-3);
        }
        return yes(s.walls.size());
    }

    // ---- steps

    private int takes(String row, int left, int right) {
        Map<String, Integer> w = new HashMap<>();
        w.put("left", left);
        w.put("right", right);
        w.put("one", row.charAt(left) - '0');
        w.put("other", row.charAt(right) - '0');
        w.put("apart", right - left);
        w.put("first", row.charAt(0) - '0');
        w.put("beans", row.length());
        w.put("day", s.day);
        List<Clause> law = s.force == NONE ? List.of() : s.laws.get(s.force);
        boolean let = law.stream().noneMatch(c -> c.kind().equals("lets"))
                ? right - left == 1
                : law.stream().anyMatch(c -> c.kind().equals("lets") && c.holds(w));
        if (!let || law.stream().anyMatch(c -> c.kind().equals("bars") && c.holds(w))) {
            return 0;
        }
        long takes = 1;
        for (Clause c : law) {
            if (c.kind().equals("takes") && c.holds(w)) {
                takes = c.sum().applyAsLong(w);
            }
        }
        return (int) Math.min(99, Math.max(1, takes));
    }

    private List<List<Step>> graph() {
        List<String> all = all();
        List<List<Step>> graph = new ArrayList<>();
        for (int h = 0; h < all.size(); h++) {
            String row = all.get(h);
            List<Step> steps = new ArrayList<>();
            for (int i = 0; i < row.length(); i++) {
                for (int j = i + 1; j < row.length(); j++) {
                    StringBuilder b = new StringBuilder(row);
                    b.setCharAt(i, row.charAt(j));
                    b.setCharAt(j, row.charAt(i));
                    int takes = takes(row, i, j);
                    if (takes > 0) {
                        lead(all, h, b.toString(), takes, steps);
                    }
                }
            }
            if (s.turn == 1 && !row.isEmpty()) {
                lead(all, h, row.substring(1) + row.charAt(0), 1, steps);
            }
            graph.add(steps);
        }
        return graph;
    }

    private void lead(List<String> all, int from, String row, int takes, List<Step> steps) {
        int to = java.util.Collections.binarySearch(all, row);
        if (to != from && !s.walls.contains(Set.of(from, to))) {
            steps.add(new Step(to, takes));
        }
    }

    public int step(int house, int i, int what) {
        if (!is(house)) {
            return NONE;
        }
        List<Step> steps = graph().get(house);
        if (i == NONE) {
            return steps.size();
        }
        if (i < 0 || i >= steps.size()) {
            return NONE;
        }
        return what == 0 ? steps.get(i).to() : what == 1 ? steps.get(i).takes() : NONE;
    }

    /** Rounds of lessening until nothing changes; weighed: by what steps take. */
    private static int[] distances(List<List<Step>> graph, int from, boolean weighed) {
        int[] d = new int[graph.size()];
        Arrays.fill(d, Integer.MAX_VALUE);
        d[from] = 0;
        boolean more = true;
        while (more) {
            more = false;
            for (int h = 0; h < d.length; h++) {
                if (d[h] == Integer.MAX_VALUE) {
                    continue;
                }
                for (Step t : graph.get(h)) {
                    int n = d[h] + (weighed ? t.takes() : 1);
                    if (n < d[t.to()]) {
                        d[t.to()] = n;
                        more = true;
                    }
                }
            }
        }
        for (int h = 0; h < d.length; h++) {
            d[h] = d[h] == Integer.MAX_VALUE ? NONE : d[h];
        }
        return d;
    }

    private static BigInteger countRows(List<List<Step>> graph, int from, int to, int n) {
        BigInteger[] rows = new BigInteger[graph.size()];
        Arrays.fill(rows, BigInteger.ZERO);
        rows[from] = BigInteger.ONE;
        for (int i = 0; i < n; i++) {
            BigInteger[] next = new BigInteger[rows.length];
            Arrays.fill(next, BigInteger.ZERO);
            for (int h = 0; h < rows.length; h++) {
                for (Step t : graph.get(h)) {
                    next[t.to()] = next[t.to()].add(rows[h]);
                }
            }
            rows = next;
        }
        return to == NONE ? Arrays.stream(rows).reduce(BigInteger.ZERO, BigInteger::add) : rows[to];
    }

    public int far(int from, int to, int what) {
        if (!is(from) || !is(to) || what < 0 || what > 2) {
            return NONE;
        }
        List<List<Step>> graph = graph();
        int d = distances(graph, from, what == 2)[to];
        if (what != 1) {
            return d;
        }
        // A row of as many steps as are fewest is a row of fewest steps.
        return d == NONE ? 0 : countRows(graph, from, to, d).min(BigInteger.valueOf(1000000000)).intValue();
    }

    public int way(int from, int to, int i) {
        if (!is(from) || !is(to)) {
            return NONE;
        }
        List<List<Step>> graph = graph();
        int left = distances(graph, from, false)[to];
        if (i < 0 || i > left) {
            return NONE;
        }
        List<List<Step>> turned = new ArrayList<>();
        graph.forEach(x -> turned.add(new ArrayList<>()));
        for (int h = 0; h < graph.size(); h++) {
            for (Step t : graph.get(h)) {
                turned.get(t.to()).add(new Step(h, 1));
            }
        }
        int[] home = distances(turned, to, false);
        int at = from;
        for (int k = 0; k < i; k++) {
            int here = at;
            at = graph.get(at).stream().mapToInt(Step::to).filter(h -> home[h] != NONE && home[h] == home[here] - 1)
                    .min().getAsInt();
        }
        return at;
    }

    public int reach(int house, int what) {
        if (!is(house) || what < 0 || what > 3) {
            return NONE;
        }
        int[] d = distances(graph(), house, false);
        int most = Arrays.stream(d).max().getAsInt();
        if (what == 0) {
            return (int) Arrays.stream(d).filter(x -> x != NONE).count();
        }
        if (what == 1) {
            return most;
        }
        if (what == 2) {
            return (int) Arrays.stream(d).filter(x -> x == most).count();
        }
        for (int h = 0;; h++) {
            if (d[h] == most) {
                return h;
            }
        }
    }

    public int read(int house, int what) {
        if (!is(house)) {
            return NONE;
        }
        String row = all().get(house);
        if (what == 0) {
            return all().indexOf(new StringBuilder(row).reverse().toString());
        }
        if (what != 1) {
            return NONE;
        }
        int n = 0;
        for (int i = 0; i < row.length(); i++) {
            for (int j = 0; j < i; j++) {
                n += row.charAt(j) > row.charAt(i) ? 1 : 0;
            }
        }
        return n;
    }

    /** By trying: some wall must stand on every way, so each of one shortest way's pairs is tried in turn. */
    private static boolean canPart(List<List<Step>> graph, int from, int to, int walls, Set<Set<Integer>> built) {
        int[] before = new int[graph.size()];
        Arrays.fill(before, -2);
        before[from] = -1;
        List<Integer> queue = new ArrayList<>(List.of(from));
        for (int k = 0; k < queue.size(); k++) {
            int h = queue.get(k);
            for (Step t : graph.get(h)) {
                if (before[t.to()] == -2 && !built.contains(Set.of(h, t.to()))) {
                    before[t.to()] = h;
                    queue.add(t.to());
                }
            }
        }
        if (before[to] == -2) {
            return true;
        }
        if (walls == 0) {
            return false;
        }
        for (int h = to; h != from; h = before[h]) {
            Set<Integer> pair = Set.of(h, before[h]);
            built.add(pair);
            boolean can = canPart(graph, from, to, walls - 1, built);
            built.remove(pair);
            if (can) {
                return true;
            }
        }
        return false;
    }

    private static int flow(List<List<Step>> graph, int from, int to) {
        int n = graph.size();
        int[][] room = new int[n][n];
        for (int h = 0; h < n; h++) {
            for (Step t : graph.get(h)) {
                room[h][t.to()] = 1;
            }
        }
        for (int found = 0;; found++) {
            boolean[] seen = new boolean[n];
            if (!push(room, from, to, seen)) {
                return found;
            }
        }
    }

    private static boolean push(int[][] room, int at, int to, boolean[] seen) {
        if (at == to) {
            return true;
        }
        seen[at] = true;
        for (int next = 0; next < room.length; next++) {
            if (room[at][next] > 0 && !seen[next] && push(room, next, to, seen)) {
                room[at][next]--;
                room[next][at]++;
                return true;
            }
        }
        return false;
    }

    public int parted(int from, int to) {
        if (!is(from) || !is(to) || from == to) {
            return NONE;
        }
        List<List<Step>> graph = graph();
        int by = flow(graph, from, to);
        if (graph.size() <= 12 && by <= 3) {
            int walls = 0;
            while (!canPart(graph, from, to, walls, new HashSet<>())) {
                walls++;
            }
            if (walls != by) {
                throw new IllegalStateException("the model is at odds with itself");
            }
        }
        return by;
    }

    public long rows(int from, int to, int n) {
        if (!is(from) || (to != NONE && !is(to)) || n < 0 || n > 12) {
            return NONE;
        }
        return countRows(graph(), from, to, n).longValueExact();
    }

    private static boolean goRound(List<List<Step>> graph, List<Integer> row) {
        int last = row.get(row.size() - 1);
        TreeSet<Integer> next = new TreeSet<>();
        graph.get(last).forEach(t -> next.add(t.to()));
        if (row.size() == graph.size()) {
            return next.contains(0);
        }
        for (int h : next) {
            if (!row.contains(h)) {
                row.add(h);
                if (goRound(graph, row)) {
                    return true;
                }
                row.remove(row.size() - 1);
            }
        }
        return false;
    }

    public int round(int i) {
        List<List<Step>> graph = graph();
        if (graph.size() > 14) {
            return NONE;
        }
        List<Integer> row = new ArrayList<>(List.of(0));
        boolean is = graph.size() > 1 && goRound(graph, row);
        if (i == NONE) {
            return is ? 1 : 0;
        }
        return is && i >= 0 && i < row.size() ? row.get(i) : NONE;
    }

    // ---- the machine

    public int swapIf(int left, int right) {
        if (left < 0 || right < 0 || left >= right || right >= places()) {
            return no(-1);
        }
        if (s.swaps.size() == 12) {
            return no(-5);
        }
        s.swaps.add(new int[] {left, right});
        return yes(s.swaps.size());
    }

    public int keep(int n) {
        int had = s.swaps.size();
        if (n < 0 || n > had) {
            return no(-1);
        }
        s.swaps = new ArrayList<>(s.swaps.subList(0, n));
        return yes(had);
    }

    private static String through(String row, List<int[]> swaps) {
        char[] c = row.toCharArray();
        for (int[] w : swaps) {
            if (c[w[0]] > c[w[1]]) {
                char x = c[w[0]];
                c[w[0]] = c[w[1]];
                c[w[1]] = x;
            }
        }
        return new String(c);
    }

    private int many(List<int[]> swaps) {
        List<String> all = all();
        return (int) all.stream().filter(r -> through(r, swaps).equals(all.get(0))).count();
    }

    public int sorts(int what) {
        int many = many(s.swaps);
        if (what == 0) {
            return many;
        }
        if (what == 1) {
            for (int h = 0; h < houses(); h++) {
                if (sorted(h) != 0) {
                    return h;
                }
            }
            return NONE;
        }
        if (what == 2) {
            int bits = 0;
            for (int i = 0; i < s.swaps.size(); i++) {
                List<int[]> fewer = new ArrayList<>(s.swaps);
                fewer.remove(i);
                bits += many(fewer) >= many ? 1 << i : 0;
            }
            return bits;
        }
        if (what == 3) {
            for (int k = 0;; k++) {
                if (many(s.swaps.subList(0, k)) == many) {
                    return k;
                }
            }
        }
        return NONE;
    }

    public int sorted(int house) {
        return is(house) ? all().indexOf(through(all().get(house), s.swaps)) : NONE;
    }

    // ---- the riddle

    public int clue(int house, int steps) {
        if (steps < -1) {
            return no(-1);
        }
        if (!is(house)) {
            return no(-2);
        }
        if (s.clues.size() == 6) {
            return no(-5);
        }
        s.clues.add(new int[] {house, steps});
        return yes(s.clues.size());
    }

    public int forget() {
        int had = s.clues.size();
        s.clues.clear();
        return had;
    }

    private List<Integer> fitting(List<List<Step>> graph) {
        List<Integer> fits = new ArrayList<>();
        for (int h = 0; h < graph.size(); h++) {
            int sought = h;
            if (s.clues.stream().allMatch(c -> distances(graph, c[0], false)[sought] == c[1])) {
                fits.add(h);
            }
        }
        return fits;
    }

    public int fits(int i) {
        List<Integer> fits = fitting(graph());
        if (i == NONE) {
            return fits.size();
        }
        return i >= 0 && i < fits.size() ? fits.get(i) : NONE;
    }

    public int ask(int what) {
        List<List<Step>> graph = graph();
        List<Integer> fits = fitting(graph);
        if (fits.isEmpty() || what < 0 || what > 1) {
            return NONE;
        }
        int best = -1;
        int least = Integer.MAX_VALUE;
        for (int h = 0; h < graph.size(); h++) {
            int[] d = distances(graph, h, false);
            Map<Integer, Integer> alike = new HashMap<>();
            fits.forEach(f -> alike.merge(d[f], 1, Integer::sum));
            int worst = java.util.Collections.max(alike.values());
            if (worst < least) {
                least = worst;
                best = h;
            }
        }
        return what == 0 ? best : least;
    }

    public int post(int one, int oneTo, int other, int otherTo) {
        if (!is(one) || !is(oneTo) || !is(other) || !is(otherTo) || one == other || oneTo == otherTo
                || houses() > 40) {
            return NONE;
        }
        List<List<Step>> graph = graph();
        Set<List<Integer>> seen = new HashSet<>();
        Set<List<Integer>> now = new HashSet<>(Set.of(List.of(one, other)));
        for (int minutes = 0; !now.isEmpty(); minutes++) {
            if (now.contains(List.of(oneTo, otherTo))) {
                return minutes;
            }
            seen.addAll(now);
            Set<List<Integer>> next = new HashSet<>();
            for (List<Integer> both : now) {
                Set<Integer> a = new HashSet<>(Set.of(both.get(0)));
                graph.get(both.get(0)).forEach(t -> a.add(t.to()));
                Set<Integer> b = new HashSet<>(Set.of(both.get(1)));
                graph.get(both.get(1)).forEach(t -> b.add(t.to()));
                for (int x : a) {
                    for (int y : b) {
                        boolean past = x == both.get(1) && y == both.get(0);
                        if (x != y && !past && !seen.contains(List.of(x, y))) {
                            next.add(List.of(x, y));
                        }
                    }
                }
            }
            now = next;
        }
        return NONE;
    }

    public int drunk(int seed, int house, int n) {
        if (seed < 0 || seed > 1000000 || n < 0 || n > 500) {
            return no(-1);
        }
        if (!is(house)) {
            return no(-2);
        }
        List<List<Step>> graph = graph();
        drunk = new HashMap<>();
        long draw = seed;
        int at = house;
        drunk.merge(at, 1, Integer::sum);
        for (int i = 0; i < n; i++) {
            List<Step> steps = graph.get(at);
            if (!steps.isEmpty()) {
                draw = (draw * 1103 + 12345) % 1000003;
                at = steps.get((int) (draw % steps.size())).to();
            }
            drunk.merge(at, 1, Integer::sum);
        }
        return yes(at);
    }

    public int drawn(int house) {
        return drunk != null && is(house) ? drunk.getOrDefault(house, 0) : NONE;
    }

    public int image(int k) {
        if (k != 0 && k != 1) {
            return no(-1);
        }
        images[k] = s.copy();
        return yes(0);
    }

    public int back(int k) {
        if (k != 0 && k != 1) {
            return no(-1);
        }
        if (images[k] == null) {
            return no(-2);
        }
        s = images[k].copy();
        return yes(0);
    }

    public int count(int what) {
        int[] all = {places(), s.beans[0], s.beans[1], s.beans[2], s.beans[3], s.beans[4], s.laws.size(),
            s.walls.size(), s.clues.size(), s.swaps.size(), tape.size(), refused.getOrDefault(-1, 0),
            refused.getOrDefault(-2, 0), refused.getOrDefault(-3, 0), refused.getOrDefault(-5, 0),
            refused.getOrDefault(-6, 0), s.force, s.turn, s.day};
        return what >= 0 && what < all.length ? all[what] : NONE;
    }

    public int status() {
        return status;
    }
}
