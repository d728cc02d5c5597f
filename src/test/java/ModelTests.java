import java.lang.reflect.InvocationTargetException;
import java.lang.reflect.Method;
import java.nio.charset.StandardCharsets;
import java.util.ArrayList;
import java.util.Arrays;
import java.util.HashMap;
import java.util.List;
import java.util.Map;
import java.util.Random;

/** Runs of drawn calls, the same on the class and on the model, for all promises at once. */
public final class ModelTests {
    private static final Map<String, Method> REAL = methods(BeanStreet.class);
    private static final Map<String, Method> MODEL = methods(StreetModel.class);

    private final Random draw;
    private final BeanStreet real = new BeanStreet();
    private final StreetModel model = new StreetModel();
    private final List<String> told = new ArrayList<>();
    private final List<int[]> walls = new ArrayList<>();
    private boolean wrong = false;

    private ModelTests(long seed) {
        draw = new Random(seed);
    }

    private static Map<String, Method> methods(Class<?> kind) {
        Map<String, Method> found = new HashMap<>();
        for (Method m : kind.getDeclaredMethods()) {
            if (java.lang.reflect.Modifier.isPublic(m.getModifiers())) {
                found.put(m.getName(), m);
            }
        }
        return found;
    }

    private static long answer(Method method, Object of, Object[] args) {
        try {
            return ((Number) method.invoke(of, args)).longValue();
        } catch (InvocationTargetException e) {
            throw new IllegalStateException(method.getName() + Arrays.toString(args) + " threw", e.getCause());
        } catch (IllegalAccessException e) {
            throw new IllegalStateException(e);
        }
    }

    private void call(String name, int... numbers) {
        Object[] args = new Object[numbers.length];
        for (int i = 0; i < args.length; i++) {
            args[i] = numbers[i];
        }
        long got = answer(REAL.get(name), real, args);
        long want = answer(MODEL.get(name), model, args);
        told.add(name + Arrays.toString(numbers) + " = " + got);
        if (got != want && !wrong) {
            wrong = true;
            told.forEach(System.out::println);
            System.out.println("due was " + want);
        }
    }

    private int below(int n) {
        return draw.nextInt(n);
    }

    private int among(int... numbers) {
        return numbers[below(numbers.length)];
    }

    private int aHouse() {
        int all = model.houses();
        return below(25) == 0 ? among(-2, -1, all, all + 1, Integer.MAX_VALUE, Integer.MIN_VALUE) : below(all);
    }

    private int aWhat(int most) {
        return below(25) == 0 ? among(-2, -1, most + 1, most + 2, Integer.MAX_VALUE, Integer.MIN_VALUE)
                : below(most + 1);
    }

    private void write(byte[] text) {
        if (below(50) > 0) {
            call("end", 0);
        }
        int before = model.count(10);
        for (int from = 0; from < text.length; from += 20) {
            call("feed", Check.twenty(text, from));
        }
        call("end", below(200) == 0 ? among(-1, 401, before, Integer.MIN_VALUE) : before + text.length);
    }

    // ---- laws

    private String word() {
        String[] words = {"left", "right", "one", "other", "apart", "first", "beans", "day"};
        return words[below(words.length)];
    }

    private String blank() {
        return below(3) == 0 ? " ".repeat(1 + below(2)) : "";
    }

    private String part(int depth) {
        int kind = below(10);
        if (kind < 4) {
            return "" + among(0, 1, 2, 3, 1 + below(9), below(100), 1000, below(20) == 0 ? 1001 : 7);
        }
        if (kind < 9 || depth == 0) {
            return " " + word() + " ";
        }
        return "[" + sum(depth - 1) + blank() + "]";
    }

    private String sum(int depth) {
        StringBuilder b = new StringBuilder(part(depth));
        while (below(3) == 0) {
            b.append(blank()).append("+-*/".charAt(below(4))).append(blank()).append(part(depth));
        }
        return b.toString();
    }

    private String plain(int depth) {
        int kind = below(10);
        if (kind == 0) {
            return "not " + plain(depth);
        }
        if (kind < 3 && depth > 0) {
            return "(" + test(depth - 1) + ")";
        }
        return sum(depth) + "<>=".charAt(below(3)) + sum(depth);
    }

    private String test(int depth) {
        StringBuilder b = new StringBuilder(plain(depth));
        while (below(3) == 0) {
            b.append(below(2) == 0 ? " or " : " and ").append(plain(depth));
        }
        return b.toString();
    }

    private String clause() {
        int kind = below(3);
        String head = kind == 0 ? "takes " + sum(2) : kind == 1 ? "lets" : "bars";
        return below(4) == 0 ? head : head + " if " + test(2);
    }

    private String lawText() {
        if (below(12) == 0) {
            return edgeText();
        }
        StringBuilder b = new StringBuilder(blank()).append(clause());
        int more = below(4);
        for (int i = 0; i < more; i++) {
            b.append(blank()).append(';').append(blank()).append(clause());
        }
        b.append(blank());
        for (int spoil = below(4) == 0 ? 1 + below(2) : 0; spoil > 0 && b.length() > 0; spoil--) {
            int at = below(b.length());
            char sign = " ;()[]+-*/<>=09azA\t\u00e9\u0000".charAt(below(21));
            int how = below(4);
            if (how == 0) {
                b.deleteCharAt(at);
            } else if (how == 1) {
                b.insert(at, sign);
            } else if (how == 2) {
                b.setCharAt(at, sign);
            } else {
                b.setLength(at);
            }
        }
        return b.toString();
    }

    private String edgeText() {
        switch (below(8)) {
            case 5:
                return "lets;takes 99;takes 40*apart+20*one+" + word() + ";bars if " + test(1);
            case 6:
                return "takes 30*one+25*left;takes 97 if " + test(1) + (below(2) == 0 ? ";lets if " + test(1) : "");
            case 0:
                return "lets" + ";lets".repeat(10 + below(4)) + (below(2) == 0 ? ";" : "");
            case 1:
                return "takes 1" + "+1".repeat(47 + below(5)) + (below(2) == 0 ? ";bars if day=day" : "");
            case 2:
                int deep = 7 + below(3);
                return "takes " + "[".repeat(deep) + "day" + "]".repeat(deep) + " if apart<3";
            case 3:
                int tests = 3 + below(4);
                int sums = 3 + below(4);
                return "lets if " + "(".repeat(tests) + "[".repeat(sums) + "one" + "]".repeat(sums) + "<other"
                        + ")".repeat(tests);
            case 4:
                return "takes " + "1000*".repeat(2 + below(3)) + "1" + "+-*/".charAt(below(4)) + word();
            default:
                return "bars if " + "not ".repeat(below(90)) + " left=0";
        }
    }

    // ---- runs

    private void someBeans(int most) {
        int kind = below(10);
        if (kind == 0) {
            call("beans", among(-1, 5, 0, 4), among(-1, 8, 7, 0, Integer.MAX_VALUE, Integer.MIN_VALUE));
        } else if (kind < 6) {
            byte[] row = new byte[below(8) == 0 ? below(10) : 1 + below(most)];
            int colours = below(6) == 0 ? 6 : 2 + below(4);
            for (int i = 0; i < row.length; i++) {
                row[i] = (byte) below(colours);
            }
            write(row);
            call("row");
        } else {
            call("beans", below(5), below(3));
        }
    }

    private void change() {
        switch (below(13)) {
            case 0:
                call("terms", aWhat(1), among(0, 1, 1, below(100), -1, 100));
                break;
            case 1:
            case 2:
                write(lawText().getBytes(StandardCharsets.ISO_8859_1));
                call("law");
                call("fault");
                break;
            case 3:
            case 4:
                call("force", below(12) == 0 ? among(-2, 6, 5) : below(Math.max(1, model.count(6))));
                break;
            case 5:
                call("force", among(-1, -1, below(7)));
                break;
            case 6:
            case 7:
                aWall();
                break;
            case 8:
                if (walls.isEmpty() || below(6) == 0) {
                    call("breach", aHouse(), aHouse());
                } else {
                    int[] wall = walls.get(below(walls.size()));
                    int turned = below(2);
                    call("breach", wall[turned], wall[1 - turned]);
                }
                break;
            case 9:
                int right = below(Math.max(1, model.count(0))) + (below(20) == 0 ? 1 : 0);
                call("swapIf", right == 0 ? below(2) - 1 : below(right), right);
                break;
            case 10:
                call("keep", among(-1, 13, below(13), model.count(9), model.count(9) / 2));
                break;
            case 11:
                call("clue", aHouse(), among(-2, -1, 0, 1, 2, 3, 4));
                break;
            default:
                call(below(2) == 0 ? "forget" : "status");
        }
    }

    /** Mostly between two that are next to each other: others part nothing. */
    private void aWall() {
        int one = aHouse();
        int steps = model.step(one, -1, 0);
        int other = steps > 0 && below(6) > 0 ? model.step(one, below(steps), 0) : aHouse();
        walls.add(new int[] {one, other});
        call("wall", one, other);
    }

    /** Until there is no room. */
    private void fill() {
        int kind = below(5);
        for (int i = 0; i < 13; i++) {
            if (kind == 0) {
                aWall();
            } else if (kind == 1) {
                call("clue", aHouse(), among(-1, 0, 1, 2, 3));
            } else if (kind == 2 && i < 7) {
                write(lawText().getBytes(StandardCharsets.ISO_8859_1));
                call("law");
                call("fault");
            } else if (kind == 3 && model.count(0) > 1) {
                int right = 1 + below(model.count(0) - 1);
                call("swapIf", below(right), right);
            } else if (kind == 4) {
                call("feed", draw.nextInt(), draw.nextInt(), draw.nextInt(), draw.nextInt(), draw.nextInt());
            }
        }
    }

    private void images() {
        call(below(2) == 0 ? "image" : "back", among(0, 1, 0, 1, 0, 1, -1, 2));
    }

    private void lookSmall() {
        switch (below(12)) {
            case 0:
                call("houses");
                call("status");
                break;
            case 1:
                call("code", aHouse());
                break;
            case 2:
                call("house", below(3) == 0 ? below(80000) - 100 : model.code(aHouse()));
                break;
            case 3:
                call("read", aHouse(), aWhat(1));
                break;
            case 4:
                call("sorts", aWhat(3));
                break;
            case 5:
                call("sorted", aHouse());
                break;
            case 6:
                call("count", aWhat(18));
                break;
            case 7:
                call("drawn", aHouse());
                break;
            case 8:
                call("drunk", among(0, below(1000001), below(1000001), 1000000, -1, 1000001), aHouse(),
                        among(0, 1, below(30), below(501), 500, 501, -1));
                break;
            default:
                call("step", aHouse(), below(4) == 0 ? -1 : below(8) - (below(9) == 0 ? 3 : 0), below(2));
        }
    }

    private void lookFar() {
        switch (below(11)) {
            case 0:
            case 1:
                call("far", aHouse(), aHouse(), aWhat(2));
                break;
            case 2:
            case 3:
                int from = aHouse();
                int to = aHouse();
                int far = Math.max(0, model.far(from, to, 0));
                call("way", from, to, below(far + 2) - (below(9) == 0 ? 2 : 0));
                call("way", from, to, below(far + 1));
                break;
            case 4:
                call("reach", aHouse(), aWhat(3));
                break;
            case 5:
                call("parted", aHouse(), aHouse());
                break;
            case 6:
                call("rows", aHouse(), below(3) == 0 ? -1 : aHouse(), below(15) - 1);
                break;
            case 7:
                call("round", -1);
                call("round", below(13) - 1);
                call("round", 1 + below(5));
                break;
            case 8:
                call("fits", below(4) == 0 ? -1 : below(6) - (below(9) == 0 ? 2 : 0));
                break;
            case 9:
                call("ask", aWhat(1));
                break;
            default:
                call("post", aHouse(), aHouse(), aHouse(), aHouse());
        }
    }

    private boolean run(int calls, int most, int farEvery) {
        boolean settled = below(2) == 0;
        for (int i = 0; told.size() < calls && i < 4 * calls && !wrong; i++) {
            int kind = below(20);
            if (i < 4 || (kind == 0 && !settled)) {
                someBeans(most);
            } else if (kind == 1) {
                images();
            } else if (kind == 2 && below(4) == 0) {
                fill();
            } else if (kind < 9) {
                change();
            } else if (kind < 13 || below(farEvery) != 0) {
                lookSmall();
            } else {
                lookFar();
            }
        }
        return !wrong;
    }

    /** A city of a drawn law and walls, every two houses. */
    private boolean everyTwo() {
        byte[] row = new byte[3 + below(2)];
        for (int i = 0; i < row.length; i++) {
            row[i] = (byte) (below(3) == 0 ? below(4) : i);
        }
        write(row);
        call("row");
        call("terms", 0, below(2));
        for (int i = 0; i < 3; i++) {
            write(lawText().getBytes(StandardCharsets.ISO_8859_1));
            call("law");
        }
        call("force", model.count(6) - 1);
        for (int i = below(9); i > 0; i--) {
            aWall();
        }
        for (int from = 0; from < model.houses(); from++) {
            call("reach", from, from % 4);
            for (int to = 0; to < model.houses() && !wrong; to++) {
                call("parted", from, to);
                call("far", from, to, (from + to) % 3);
            }
        }
        return !wrong;
    }

    public static void main(String[] args) {
        int small = args.length > 0 ? Integer.parseInt(args[0]) : 1500;
        long seed = args.length > 1 ? Long.parseLong(args[1]) : 1;
        for (int i = 0; i < small; i++) {
            int kind = i % 20;
            ModelTests test = new ModelTests(seed * 1000003L + i);
            boolean good = kind < 15 ? test.run(120, 4, 1) : kind < 19 ? test.run(60, 5, 2) : test.run(40, 7, 8);
            if (!good) {
                System.out.println("drawn run " + i + " of seed " + seed);
                System.exit(1);
            }
            if (i % 10 == 0 && !new ModelTests(seed * 1000003L - i - 1).everyTwo()) {
                System.out.println("every two houses, " + i + " of seed " + seed);
                System.exit(1);
            }
        }
        System.out.println(small + " drawn runs, all as the model");
    }
}
