import java.util.Arrays;

/**
 * What must be so in every city there can be, by counting and not by a second program: all 792 choices of
 * beans.
 */
public final class CityTests {
    /** An object is used for at most 512 calls, so that a new one goes on where another has had so many. */
    private static final int MOST_CALLS = 480;
    private static final Check C = new Check();

    private final int[] beans;
    private final String law;
    private BeanStreet street;
    private int calls;

    private CityTests(int[] beans, String law) {
        this.beans = beans;
        this.law = law;
        calls = MOST_CALLS;
        C.about("beans " + Arrays.toString(beans) + ", law \"" + law + "\"");
    }

    private BeanStreet x() {
        if (calls == MOST_CALLS) {
            calls = 0;
            street = new BeanStreet();
            for (int colour = 0; colour < 5; colour++) {
                street.beans(colour, beans[colour]);
            }
            if (!law.isEmpty()) {
                Check.law(street, law);
                street.force(0);
            }
        }
        calls++;
        return street;
    }

    private int places() {
        return Arrays.stream(beans).sum();
    }

    private static int factorial(int n) {
        return n < 2 ? 1 : n * factorial(n - 1);
    }

    /** Orders of so many beans, divided by those of beans that are alike. */
    private int orders() {
        int many = factorial(places());
        for (int some : beans) {
            many /= factorial(some);
        }
        return many;
    }

    /** Pairs of beans of two colours: so many inversions has the last house. */
    private int pairs() {
        int all = places() * (places() - 1) / 2;
        for (int some : beans) {
            all -= some * (some - 1) / 2;
        }
        return all;
    }

    private int colours() {
        return (int) Arrays.stream(beans).filter(some -> some > 0).count();
    }

    /** Codes rise; a row read backward has the other inversions. */
    private void numbers() {
        int all = orders();
        C.due("houses()", x().houses(), all);
        C.due("count(0)", x().count(0), places());
        int before = -1;
        for (int house = 0; house < all; house++) {
            int code = x().code(house);
            C.isTrue("code(" + house + ") is higher than the one ahead", code > before);
            before = code;
            C.due("house(" + code + ")", x().house(code), house);
            int back = x().read(house, 0);
            C.due("read(" + house + ", 1)", x().read(house, 1), pairs() - x().read(back, 1));
        }
        C.due("code(" + all + ")", x().code(all), -1);
        C.due("read(0, 0)", x().read(0, 0), all - 1);
    }

    /** By beans side by side it is as far from home as there are inversions. */
    private void farFromHome() {
        int all = orders();
        int[] so = new int[pairs() + 1];
        for (int house = 0; house < all; house++) {
            int far = x().far(0, house, 0);
            C.due("far(0, " + house + ", 0)", far, x().read(house, 1));
            C.due("far(0, " + house + ", 2)", x().far(0, house, 2), far);
            so[far]++;
        }
        C.due("reach(0, 0)", x().reach(0, 0), all);
        C.due("reach(0, 1)", x().reach(0, 1), pairs());
        C.due("reach(0, 2)", x().reach(0, 2), 1);
        C.due("reach(0, 3)", x().reach(0, 3), all - 1);
        C.due("step(0, -1, 0)", x().step(0, -1, 0), Math.max(0, colours() - 1));
        for (int far = 0; far <= pairs(); far++) {
            BeanStreet one = x();
            one.forget();
            one.clue(0, far);
            C.due("fits(-1) by clue(0, " + far + ")", one.fits(-1), so[far]);
            calls = MOST_CALLS;
        }
    }

    /** The way goes up by one each time, and each house of it is the lowest that can be. */
    private void wayFromHome() {
        int all = orders();
        int at = 0;
        for (int i = 0; i <= pairs(); i++) {
            int next = x().way(0, all - 1, i);
            C.due("read(" + next + ", 1)", x().read(next, 1), i);
            int lowest = i == 0 ? 0 : all;
            int steps = i == 0 ? 0 : x().step(at, -1, 0);
            for (int k = 0; k < steps; k++) {
                int to = x().step(at, k, 0);
                // From every house one comes to the last one by inversions alone.
                if (x().read(to, 1) == i) {
                    lowest = Math.min(lowest, to);
                }
            }
            C.due("way(0, " + (all - 1) + ", " + i + ")", next, lowest);
            at = next;
        }
        C.due("way, one more", x().way(0, all - 1, pairs() + 1), -1);
    }

    /** Rows of steps to each house are together those to any; a drunk is somewhere each time. */
    private void sums() {
        int all = orders();
        int n = places() + 2;
        long rows = 0;
        for (int house = 0; house < all; house++) {
            rows += x().rows(all - 1, house, n);
        }
        C.due("rows(" + (all - 1) + ", -1, " + n + ")", x().rows(all - 1, -1, n), rows);
        calls = MOST_CALLS;
        BeanStreet one = x();
        int end = one.drunk(1000000 - all, all / 2, 77);
        C.isTrue("he was where he ends", one.drawn(end) > 0);
        int times = 0;
        for (int house = 0; house < all; house++) {
            times += one.drawn(house);
            if (house % 400 == 399) {
                calls = MOST_CALLS;
                one = x();
                one.drunk(1000000 - all, all / 2, 77);
            }
        }
        C.due("drawn of all", times, 78);
        calls = MOST_CALLS;
    }

    /** Without a law one comes back as one came: as many walls part both ways, and no more than steps lead away. */
    private void parting() {
        int all = orders();
        for (int k = 0; k < 3 && all > 1; k++) {
            int from = (all - 1) * k / 2;
            int to = (from + 1 + all / 3) % all;
            int walls = x().parted(from, to);
            C.due("parted(" + to + ", " + from + ")", x().parted(to, from), walls);
            int most = Math.min(x().step(from, -1, 0), x().step(to, -1, 0));
            C.isTrue("parted(" + from + ", " + to + ") is " + walls, walls > 0 && walls <= most);
        }
    }

    /** Where no beans are alike, those that stand on one another's places need one exchange fewer than they are. */
    private void exchanges() {
        int all = orders();
        for (int house = 0; house < all; house++) {
            C.due("far(" + house + ", 0, 0)", x().far(house, 0, 0), places() - rounds(x().code(house)));
        }
    }

    private int rounds(int code) {
        int[] rank = new int[5];
        int many = 0;
        for (int colour = 0; colour < 5; colour++) {
            rank[colour] = many;
            many += beans[colour];
        }
        int[] goes = new int[places()];
        int left = code;
        for (int place = places() - 1; place >= 0; place--) {
            goes[place] = rank[left % 5];
            left /= 5;
        }
        int found = 0;
        boolean[] seen = new boolean[places()];
        for (int place = 0; place < places(); place++) {
            found += seen[place] ? 0 : 1;
            for (int at = place; !seen[at]; at = goes[at]) {
                seen[at] = true;
            }
        }
        return found;
    }

    /** Ten swap-ifs bring all rows of up to five beans home, one fewer than these not all of them. */
    private void machine() {
        int n = places();
        BeanStreet one = x();
        int swaps = 0;
        for (int last = n - 1; last > 0; last--) {
            for (int left = 0; left < last; left++) {
                swaps++;
                C.due("swapIf", one.swapIf(left, left + 1), swaps);
            }
        }
        C.due("sorts(0)", one.sorts(0), orders());
        C.due("sorts(1)", one.sorts(1), -1);
        C.due("sorted", one.sorted(orders() - 1), 0);
        if (colours() == n) {
            C.due("sorts(2)", one.sorts(2), 0);
            C.due("sorts(3)", one.sorts(3), swaps);
            one.keep(Math.max(0, swaps - 1));
            C.isTrue("not all without the last", one.sorts(0) < orders() || n < 2);
        }
    }

    private static void every(int[] beans) {
        CityTests plain = new CityTests(beans, "");
        plain.numbers();
        plain.farFromHome();
        plain.wayFromHome();
        if (plain.places() < 6) {
            plain.sums();
            plain.machine();
        }
        plain.parting();
        if (plain.colours() == plain.places()) {
            new CityTests(beans, "lets").exchanges();
        }
    }

    public static void main(String[] args) {
        int cities = 0;
        for (int code = 0; code < 8 * 8 * 8 * 8 * 8; code++) {
            int[] beans = {code & 7, code >> 3 & 7, code >> 6 & 7, code >> 9 & 7, code >> 12 & 7};
            if (Arrays.stream(beans).sum() <= 7) {
                cities++;
                every(beans);
            }
        }
        C.about("all");
        C.due("cities", cities, 792);
        C.finish();
    }
}
