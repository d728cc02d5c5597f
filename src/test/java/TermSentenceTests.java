import java.io.IOException;
import java.util.Arrays;

/** The document's Terms I, III, IV: a test for each sentence that names an edge. */
public final class TermSentenceTests {
    private static final int NONE = BeanStreet.NONE;
    private static final int LOW = Integer.MIN_VALUE;
    private static final int HIGH = Integer.MAX_VALUE;

    /** Where the two steps from each house of 012 lead, by exchanges of neighbours. */
    private static final int[][] RING = {{2, 1}, {4, 0}, {0, 3}, {5, 2}, {1, 5}, {3, 4}};

    private TermSentenceTests() {
    }

    private static void colours(Check c) {
        BeanStreet x = new BeanStreet();
        c.due("the lowest", x.beans(0, 1), 0);
        c.due("the highest", x.beans(4, 1), 0);
        c.due("below", x.beans(-1, 1), -1);
        c.due("beyond", x.beans(5, 1), -1);
        c.due("far below", x.beans(LOW, 1), -1);
        c.due("far beyond", x.beans(HIGH, 1), -1);
        c.due("two beans came", x.count(0), 2);
    }

    private static void sevenInAll(Check c) {
        BeanStreet x = new BeanStreet();
        c.due("none", x.beans(2, 0), 0);
        c.due("no place", x.swapIf(0, 1), -1);
        c.due("seven", x.beans(2, 7), 0);
        c.due("places 0 to 6", x.swapIf(0, 6), 1);
        c.due("no eighth place", x.swapIf(0, 7), -1);
        c.due("eight", x.beans(2, 8), -1);
        c.due("one more", x.beans(3, 1), -1);
        c.due("six and one", x.beans(2, 6), 7);
        c.due("now there is room", x.beans(3, 1), 0);
        c.due("in all", x.count(0), 7);
    }

    private static void noBeans(Check c) {
        BeanStreet x = new BeanStreet();
        c.due("at first", x.houses(), 1);
        x.beans(0, 1);
        x.beans(4, 1);
        x.beans(0, 0);
        x.beans(4, 0);
        c.due("when all went", x.houses(), 1);
        c.due("its code", x.code(0), 0);
        c.due("of that code", x.house(0), 0);
        c.due("no other", x.code(1), NONE);
        c.due("nor of another code", x.house(1), NONE);
        c.due("no step", x.step(0, NONE, 0), 0);
    }

    private static void lowerFirst(Check c) {
        BeanStreet x = Check.withRow(3, 0, 3);
        c.due("033", x.code(0), 18);
        c.due("303", x.code(1), 78);
        c.due("330", x.code(2), 90);
        x = Check.withRow(4, 4, 3, 3, 2, 1, 0);
        for (int house = 1; house < 1260; house++) {
            c.isTrue("house " + house, x.code(house) > x.code(house - 1));
        }
    }

    private static void figures(Check c) {
        BeanStreet x = Check.withRow(1, 0, 0);
        c.due("001", x.code(0), 1);
        c.due("010", x.code(1), 5);
        c.due("100", x.code(2), 25);
        c.due("seven 4s", Check.withRow(4, 4, 4, 4, 4, 4, 4).code(0), 78124);
        c.due("seven 0s", Check.withRow(0, 0, 0, 0, 0, 0, 0).code(0), 0);
    }

    private static void turnTerm(Check c) {
        BeanStreet x = new BeanStreet();
        c.due("at first", x.count(17), 0);
        c.due("1", x.terms(0, 1), 0);
        c.due("2", x.terms(0, 2), -1);
        c.due("below", x.terms(0, -1), -1);
        c.due("stays", x.count(17), 1);
        c.due("0", x.terms(0, 0), 1);
    }

    private static void dayTerm(Check c) {
        BeanStreet x = new BeanStreet();
        c.due("at first", x.count(18), 0);
        c.due("99", x.terms(1, 99), 0);
        c.due("100", x.terms(1, 100), -1);
        c.due("below", x.terms(1, -1), -1);
        c.due("stays", x.count(18), 99);
        c.due("0", x.terms(1, 0), 99);
    }

    private static void eightWalls(Check c) {
        BeanStreet x = Check.withRow(0, 1, 2, 3);
        for (int i = 1; i <= 8; i++) {
            c.due("wall " + i, x.wall(23, i), i);
        }
        c.due("a ninth", x.wall(23, 9), -5);
        c.due("eight are there", x.count(7), 8);
        c.due("one goes", x.breach(4, 23), 7);
        c.due("another comes", x.wall(23, 9), 8);
    }

    private static void betweenTwo(Check c) {
        BeanStreet x = Check.withRow(0, 1, 2);
        c.due("not next to each other", x.wall(0, 5), 1);
        c.due("shuts nothing", x.parted(0, 5), 2);
        c.due("nor here", x.far(0, 5, 0), 3);
        c.due("next to each other", x.wall(0, 1), 2);
        c.due("shut", x.far(0, 1, 0), 5);
        c.due("from there, too", x.far(1, 0, 0), 5);
    }

    /** Room for nothing more: eight walls, six clues, twelve swap-ifs, six laws. */
    private static BeanStreet full() {
        BeanStreet x = Check.withRow(0, 1, 2, 3);
        for (int i = 0; i < 12; i++) {
            x.swapIf(0, 1);
            x.wall(0, Math.min(8, i + 1));
            x.clue(0, 1);
            Check.law(x, "lets");
        }
        return x;
    }

    private static void badNumbers(Check c) {
        BeanStreet x = Check.withRow(0, 1, 2);
        c.due("beans", x.beans(0, -1), -1);
        c.due("terms", x.terms(2, 0), -1);
        c.due("swapIf", x.swapIf(1, 1), -1);
        c.due("keep", x.keep(-1), -1);
        c.due("clue", x.clue(0, -2), -1);
        c.due("drunk", x.drunk(-1, 0, 0), -1);
        c.due("image", x.image(2), -1);
        c.due("back", x.back(2), -1);
        c.due("all counted", x.count(11), 8);
        c.due("as nothing else", x.count(12) + x.count(13) + x.count(14) + x.count(15), 0);
    }

    private static void noSuch(Check c) {
        BeanStreet x = Check.withRow(0, 1, 2);
        c.due("house of a wall", x.wall(0, 6), -2);
        c.due("other house of a wall", x.wall(-1, 0), -2);
        c.due("house of a breach", x.breach(6, 0), -2);
        c.due("law", x.force(0), -2);
        c.due("house of a clue", x.clue(6, 0), -2);
        c.due("house of a drunk", x.drunk(0, 6, 0), -2);
        c.due("image", x.back(1), -2);
        c.due("all counted", x.count(12), 7);
        c.due("as nothing else", x.count(11) + x.count(13) + x.count(14) + x.count(15), 0);
    }

    private static void byWhatStands(Check c) {
        BeanStreet x = Check.withRow(0, 1, 2);
        x.wall(0, 1);
        c.due("a wall to itself", x.wall(2, 2), -3);
        c.due("it is there", x.wall(1, 0), -3);
        c.due("none is there", x.breach(0, 2), -3);
        c.due("all counted", x.count(13), 3);
        c.due("as nothing else", x.count(11) + x.count(12) + x.count(14) + x.count(15), 0);
    }

    private static void noRoom(Check c) {
        BeanStreet x = full();
        int before = x.count(14);
        c.due("a wall", x.wall(0, 9), -5);
        c.due("a clue", x.clue(0, 1), -5);
        c.due("a swap-if", x.swapIf(0, 1), -5);
        c.due("a law", Check.law(x, "lets"), -5);
        c.due("all counted", x.count(14), before + 4);
    }

    private static void textOrRow(Check c) {
        BeanStreet x = new BeanStreet();
        c.due("a text", Check.law(x, "let"), -6);
        c.due("a row", Check.row(x, 5), -6);
        c.due("both counted", x.count(15), 2);
        c.due("as nothing else", x.count(11) + x.count(12) + x.count(13) + x.count(14), 0);
    }

    private static void firstInOrder(Check c) {
        BeanStreet x = full();
        c.due("clue: -1, -2, -5", x.clue(24, -2), -1);
        c.due("clue: -1, -5", x.clue(0, -2), -1);
        c.due("clue: -2, -5", x.clue(24, 0), -2);
        c.due("clue: -5", x.clue(0, 0), -5);
        c.due("wall: -2, -3, -5", x.wall(24, 24), -2);
        c.due("wall: -2, -5", x.wall(0, 24), -2);
        c.due("wall to itself: -3, -5", x.wall(9, 9), -3);
        c.due("wall that is there: -3, -5", x.wall(8, 0), -3);
        c.due("wall: -5", x.wall(9, 0), -5);
        c.due("breach: -2, -3", x.breach(-1, -1), -2);
        c.due("swapIf: -1, -5", x.swapIf(1, 0), -1);
        c.due("swapIf beyond: -1, -5", x.swapIf(0, 4), -1);
        c.due("swapIf: -5", x.swapIf(0, 1), -5);
        c.due("law: -5, -6", Check.law(x, "what"), -5);
        c.due("drunk: seed -1, -2", x.drunk(-1, 24, 0), -1);
        c.due("drunk: steps -1, -2", x.drunk(0, 24, 501), -1);
        c.due("drunk: -2", x.drunk(0, 24, 0), -2);
        c.due("back: -1", x.back(-1), -1);
        c.due("back: -2", x.back(1), -2);
    }

    /** All that a street tells of itself but its tape and what was refused. */
    private static int[] told(BeanStreet x) {
        int[] told = new int[32];
        for (int what = 0; what < 10; what++) {
            told[what] = x.count(what);
            told[10 + what] = x.sorted(2 * what + 1);
        }
        int[] more = {x.count(16), x.count(17), x.count(18), x.fault(), x.drawn(0), x.drawn(23), x.fits(NONE),
            x.fits(0), x.far(0, 23, 0), x.far(23, 0, 1), x.far(0, 23, 2), x.step(0, NONE, 0)};
        System.arraycopy(more, 0, told, 20, more.length);
        return told;
    }

    private static void refusedChangesNothing(Check c) {
        Move[] refused = {x -> x.beans(0, 5), x -> x.beans(5, 0), x -> x.terms(0, 2), x -> x.terms(1, 100), x -> x.row(),
            x -> Check.row(x, 0, 7), x -> x.law(), x -> x.force(6), x -> x.wall(0, 24), x -> x.wall(0, 0),
            x -> x.wall(0, 9), x -> x.breach(0, 24), x -> x.breach(1, 2), x -> x.swapIf(0, 4), x -> x.swapIf(0, 1),
            x -> x.keep(13), x -> x.clue(0, -2), x -> x.clue(24, 0), x -> x.clue(0, 0), x -> x.drunk(0, 0, 501),
            x -> x.drunk(0, 24, 1), x -> x.image(2), x -> x.back(2), x -> x.back(1)};
        for (int i = 0; i < refused.length; i++) {
            BeanStreet x = full();
            x.force(3);
            x.terms(0, 1);
            x.terms(1, 5);
            x.drunk(5, 9, 90);
            x.image(0);
            int[] before = told(x);
            c.isTrue("call " + i + " is refused", refused[i].make(x) < 0);
            c.isTrue("call " + i + " changes nothing", Arrays.equals(before, told(x)));
            x.back(0);
            c.isTrue("nor image 0 by call " + i, Arrays.equals(before, told(x)));
        }
    }

    private static void alike(Check c) {
        BeanStreet x = Check.lawful("lets", 0, 0, 1, 1);
        c.due("four of six exchanges", x.step(0, NONE, 0), 4);
        x = Check.lawful("lets", 3, 3, 3, 3, 3, 3, 3);
        c.due("all alike", x.step(0, NONE, 0), 0);
    }

    private static void stepOrder(Check c) {
        BeanStreet x = Check.lawful("lets;takes 10*left+right", 0, 1, 2, 3);
        int[] takes = {1, 2, 3, 12, 13, 23};
        c.due("all", x.step(0, NONE, 0), 6);
        for (int i = 0; i < 6; i++) {
            c.due("step " + i, x.step(0, i, 1), takes[i]);
        }
    }

    private static void turns(Check c) {
        BeanStreet x = Check.withRow(0, 1, 2);
        c.due("TURN is 0", x.step(0, NONE, 0), 2);
        x.terms(0, 1);
        c.due("one more", x.step(0, NONE, 0), 3);
        c.due("the last: 120", x.step(0, 2, 0), 3);
        c.due("201 to 012", x.step(4, 2, 0), 0);
        Check.law(x, "bars");
        x.force(0);
        c.due("a law asks of exchanges alone", x.step(0, NONE, 0), 1);
    }

    private static void turnTakes(Check c) {
        BeanStreet x = Check.lawful("takes 50", 0, 1, 2);
        x.terms(0, 1);
        c.due("an exchange", x.step(0, 0, 1), 50);
        c.due("a turn", x.step(0, 2, 1), 1);
        x = Check.withRow(2, 2, 2);
        x.terms(0, 1);
        c.due("all alike", x.step(0, NONE, 0), 0);
        x = Check.withRow(2);
        x.terms(0, 1);
        c.due("one bean", x.step(0, NONE, 0), 0);
        x = new BeanStreet();
        x.terms(0, 1);
        c.due("no bean", x.step(0, NONE, 0), 0);
    }

    private static void throughWalls(Check c) {
        BeanStreet x = Check.withRow(0, 1, 2);
        x.terms(0, 1);
        x.wall(1, 0);
        c.due("an exchange is shut", x.step(0, NONE, 0), 2);
        c.due("from there, too", x.step(1, NONE, 0), 2);
        x.wall(3, 0);
        c.due("a turn is shut", x.step(0, NONE, 0), 1);
        c.due("102 is left", x.step(0, 0, 0), 2);
        x.breach(0, 3);
        c.due("open again", x.step(0, 1, 0), 3);
    }

    private static void stepsEach(Check c) {
        BeanStreet x = Check.withRow(0, 1);
        x.terms(0, 1);
        c.due("two", x.step(0, NONE, 0), 2);
        c.due("to one house", x.step(0, 0, 0), 1);
        c.due("so, too", x.step(0, 1, 0), 1);
        c.due("rows of one step", x.rows(0, 1, 1), 2);
        c.due("of two", x.rows(0, 0, 2), 4);
        c.due("in how many", x.far(0, 1, 1), 2);
    }

    private static void itselfZero(Check c) {
        BeanStreet x = Check.withRow(0, 1, 2, 3);
        for (int house = 0; house < 24; house++) {
            c.due("far", x.far(house, house, 0), 0);
            c.due("in one row", x.far(house, house, 1), 1);
            c.due("least", x.far(house, house, 2), 0);
        }
        c.due("the last", x.far(0, 23, 0), 6);
    }

    private static void manyRows(Check c) {
        // Rows of ten exchanges of neighbours that turn five beans about.
        BeanStreet x = Check.withRow(0, 1, 2, 3, 4);
        c.due("768", x.far(0, 119, 1), 768);
        c.due("from there, too", x.far(119, 0, 1), 768);
        c.due("from beside it", x.far(118, 119, 1), 1);
        x = Check.lawful("lets if one<other and apart=1", 4, 3, 2, 1, 1, 0, 0);
        x.terms(0, 1);
        c.due("no more than that", x.far(128, 0, 1), 1000000000);
    }

    private static void least(Check c) {
        BeanStreet x = Check.lawful("lets;takes 99 if apart=2;takes 20 if apart=1", 0, 1, 2);
        c.due("one step of 99", x.far(0, 5, 0), 1);
        c.due("three of 20", x.far(0, 5, 2), 60);
        x = Check.lawful("takes 99", 4, 4, 3, 3, 2, 1, 0);
        c.due("nineteen of 99", x.far(0, 1259, 2), 1881);
        x = Check.lawful("lets;takes 40+one*one*11+left*17-other*13-apart*apart*3", 0, 1, 2, 3);
        isLeast(c, x, 0);
        x = Check.lawful("lets;takes 99-first*23-left*left*9;takes other*7-apart if one>other", 0, 1, 2, 3);
        isLeast(c, x, 17);
        x = Check.lawful("lets if one<other;takes 60-one*20+right*5;bars if left=1", 0, 1, 2, 3);
        isLeast(c, x, 3);
        // By these a house that waits is come to for less, ahead of, between, behind others that take as much.
        x = Check.lawful("lets;takes 50+right*right*3-left*8-apart*one*2", 0, 1, 2, 3);
        isLeast(c, x, 17);
        x = Check.lawful("lets;takes 50+one*7-left*left*7-other*right*5", 0, 1, 2, 3);
        isLeast(c, x, 4);
    }

    /** No step makes a least less, and all but the first house's are made by a step. */
    private static void isLeast(Check c, BeanStreet x, int from) {
        int all = x.houses();
        int[] least = new int[all];
        boolean[] made = new boolean[all];
        for (int house = 0; house < all; house++) {
            least[house] = x.far(from, house, 2);
        }
        made[from] = least[from] == 0;
        for (int house = 0; house < all; house++) {
            int many = least[house] == NONE ? 0 : x.step(house, NONE, 0);
            for (int i = 0; i < many; i++) {
                int to = x.step(house, i, 0);
                int taken = least[house] + x.step(house, i, 1);
                c.isTrue("least of " + to, least[to] != NONE && least[to] <= taken);
                made[to] = made[to] || least[to] == taken;
            }
        }
        for (int house = 0; house < all; house++) {
            c.isTrue("a step makes up the least of " + house, made[house] || least[house] == NONE);
        }
    }

    private static void firstWay(Check c) {
        BeanStreet x = Check.withRow(0, 1, 2);
        int[] there = {0, 1, 4, 5};
        int[] back = {5, 3, 2, 0};
        for (int i = 0; i < 4; i++) {
            c.due("there " + i, x.way(0, 5, i), there[i]);
            c.due("back " + i, x.way(5, 0, i), back[i]);
        }
        x = Check.withRow(4, 4, 3, 3, 2, 1, 0);
        c.due("from the last", x.way(1259, 0, 0), 1259);
        c.due("its end", x.way(1259, 0, 19), 0);
        for (int i = 0; i < 19; i++) {
            int at = x.way(0, 1259, i);
            c.due("a step each " + i, x.far(at, x.way(0, 1259, i + 1), 0), 1);
            c.due("one nearer each " + i, x.far(at, 1259, 0), 19 - i);
        }
    }

    private static void reachedItself(Check c) {
        BeanStreet x = Check.lawful("bars", 0, 1, 2);
        for (int house = 0; house < 6; house++) {
            c.due("itself alone", x.reach(house, 0), 1);
        }
        c.due("one house", new BeanStreet().reach(0, 0), 1);
    }

    private static void farthestOfReached(Check c) {
        BeanStreet x = Check.withRow(0, 0, 0, 1);
        x.wall(1, 2);
        c.due("past the wall none is reached", x.reach(0, 0), 2);
        c.due("the farthest", x.reach(0, 1), 1);
        c.due("one", x.reach(0, 2), 1);
        c.due("house 1", x.reach(0, 3), 1);
        x.wall(0, 1);
        c.due("itself is the farthest", x.reach(0, 3), 0);
        c.due("and the only one", x.reach(0, 2), 1);
    }

    private static void backward(Check c) {
        BeanStreet x = Check.withRow(0, 1, 0, 2);
        c.due("0012 is 2100", x.read(0, 0), 11);
        x = Check.withRow(0, 1, 0);
        c.due("010 is itself", x.read(1, 0), 1);
        c.due("no beans", new BeanStreet().read(0, 0), 0);
        x = Check.withRow(4, 4, 3, 3, 2, 1, 0);
        for (int house = 0; house < 1260; house += 97) {
            c.due("twice is itself", x.read(x.read(house, 0), 0), house);
        }
    }

    private static void inversions(Check c) {
        BeanStreet x = Check.withRow(0, 0, 1, 1);
        c.due("home", x.read(0, 1), 0);
        c.due("alike are none: 1100", x.read(5, 1), 4);
        c.due("most", Check.withRow(4, 4, 3, 3, 2, 1, 0).read(1259, 1), 19);
        c.due("no beans", new BeanStreet().read(0, 1), 0);
    }

    private static void wallsMore(Check c) {
        BeanStreet x = Check.lawful("lets", 0, 1, 2, 3, 4, 0, 1);
        c.due("more than there is room for", x.parted(0, 1259), 19);
        for (int i = 0; i < 8; i++) {
            x.wall(0, x.step(0, 0, 0));
        }
        c.due("eight stand", x.count(7), 8);
        c.due("those that stand are none more", x.parted(0, 1259), 11);
        x = Check.withRow(0, 1);
        c.due("one", x.parted(0, 1), 1);
        x.wall(0, 1);
        c.due("none more", x.parted(0, 1), 0);
        isFewest(c, Check.lawful("lets if 2<right", 2, 1, 1, 0));
        isFewest(c, Check.lawful("lets if apart<3", 1, 0, 3, 3));
        isFewest(c, Check.lawful("lets if one>other;bars if apart=other", 2, 3, 0, 0));
        isFewest(c, Check.withRow(0, 1, 2));
    }

    /** Walls around some houses part what is there from what is not: the fewest of all such, by trying each. */
    private static void isFewest(Check c, BeanStreet x) {
        x.terms(0, 1);
        int all = x.houses();
        int[] nexts = new int[all];
        for (int house = 0; house < all; house++) {
            for (int i = x.step(house, NONE, 0) - 1; i >= 0; i--) {
                nexts[house] |= 1 << x.step(house, i, 0);
            }
        }
        int[][] fewest = new int[all][all];
        for (int set = 1; set < (1 << all) - 1; set++) {
            int walls = 0;
            for (int house = 0; house < all; house++) {
                walls += (set >> house & 1) == 0 ? 0 : Integer.bitCount(nexts[house] & ~set);
            }
            for (int pair = 0; pair < all * all; pair++) {
                int from = pair / all;
                int to = pair % all;
                boolean parts = (set >> from & 1) != 0 && (set >> to & 1) == 0;
                fewest[from][to] = parts ? Math.max(fewest[from][to], 99 - walls) : fewest[from][to];
            }
        }
        for (int pair = 0; pair < all * all; pair++) {
            int from = pair / all;
            int to = pair % all;
            int due = from == to ? NONE : 99 - fewest[from][to];
            c.due("parted(" + from + ", " + to + ")", x.parted(from, to), due);
        }
    }

    private static void zeroToTwelve(Check c) {
        BeanStreet x = Check.withRow(0, 1, 2);
        c.due("none: itself", x.rows(3, 3, 0), 1);
        c.due("none: no other", x.rows(3, 2, 0), 0);
        c.due("none: any", x.rows(3, NONE, 0), 1);
        c.due("twelve", x.rows(3, NONE, 12), 4096);
        c.due("thirteen", x.rows(3, NONE, 13), NONE);
        c.due("below", x.rows(3, NONE, -1), NONE);
        c.due("from another house", x.rows(4, NONE, 12), 4096);
        c.due("to where none ended", x.rows(4, 0, 3), 0);
        c.due("far beyond", x.rows(3, 3, HIGH), NONE);
        c.due("far below", x.rows(3, 3, LOW), NONE);
    }

    private static void roundOfAll(Check c) {
        BeanStreet x = Check.withRow(0, 0, 1, 2);
        x.terms(0, 1);
        c.due("twelve houses", x.round(NONE), 1);
        int seen = 0;
        for (int i = 0; i < 12; i++) {
            seen |= 1 << x.round(i);
            c.due("by steps, and home " + i, x.far(x.round(i), x.round((i + 1) % 12), 0), 1);
        }
        c.due("each once", seen, 4095);
        c.due("from home", x.round(0), 0);
        x = Check.withRow(0, 0, 0, 0, 1, 1);
        c.due("fifteen houses", x.houses(), 15);
        c.due("no answer", x.round(NONE), NONE);
    }

    private static void stepHome(Check c) {
        BeanStreet x = Check.lawful("lets if one<other", 0, 1);
        c.due("there, but not home", x.round(NONE), 0);
        x.terms(0, 1);
        c.due("home by a turn", x.round(NONE), 1);
        x.wall(0, 1);
        c.due("a wall between", x.round(NONE), 0);
    }

    private static void oneAlone(Check c) {
        c.due("no beans", new BeanStreet().round(NONE), 0);
        BeanStreet x = Check.withRow(1, 1, 1);
        x.terms(0, 1);
        c.due("beans alike", x.round(NONE), 0);
        c.due("none of it", x.round(0), NONE);
        x = Check.withRow(0, 1);
        c.due("two: one", x.round(NONE), 1);
        x.beans(0, 0);
        c.due("then one alone: none", x.round(NONE), 0);
    }

    private static void firstRound(Check c) {
        BeanStreet x = Check.withRow(0, 1, 2);
        int[] round = {0, 1, 4, 5, 3, 2};
        for (int i = 0; i < 6; i++) {
            c.due("house " + i, x.round(i), round[i]);
        }
    }

    private static void twelveSwapIfs(Check c) {
        BeanStreet x = Check.withRow(1, 0);
        for (int i = 1; i <= 12; i++) {
            c.due("swap-if " + i, x.swapIf(0, 1), i);
        }
        c.due("a thirteenth", x.swapIf(0, 1), -5);
        c.due("twelve are there", x.count(9), 12);
        x.keep(11);
        c.due("another", x.swapIf(0, 1), 12);
    }

    private static void leftAheadOfRight(Check c) {
        BeanStreet x = Check.withRow(0, 1, 2);
        c.due("turned", x.swapIf(1, 0), -1);
        c.due("the same", x.swapIf(0, 0), -1);
        c.due("first and last", x.swapIf(0, 2), 1);
    }

    private static void greater(Check c) {
        BeanStreet x = Check.withRow(0, 0, 1);
        x.swapIf(0, 1);
        c.due("lower: 010 stays", x.sorted(1), 1);
        c.due("alike: 001 stays", x.sorted(0), 0);
        c.due("greater: 100 is 010", x.sorted(2), 1);
    }

    private static void endsAsHome(Check c) {
        BeanStreet x = Check.withRow(0, 0, 1);
        c.due("no swap-if: home alone", x.sorts(0), 1);
        x.swapIf(0, 1);
        c.due("010 is no home", x.sorts(0), 1);
        x.swapIf(1, 2);
        c.due("all", x.sorts(0), 3);
        c.due("one house", new BeanStreet().sorts(0), 1);
    }

    private static void asManyAtLeast(Check c) {
        BeanStreet x = Check.withRow(0, 1, 2);
        c.due("none of none", x.sorts(2), 0);
        x.swapIf(0, 1);
        x.swapIf(0, 2);
        x.swapIf(0, 1);
        // It sorts two; four without the first, two without one of the others.
        c.due("two", x.sorts(0), 2);
        c.due("as many, and more", x.sorts(2), 7);
        x.keep(0);
        x.swapIf(0, 1);
        x.swapIf(1, 2);
        x.swapIf(0, 1);
        c.due("all are needed", x.sorts(2), 0);
    }

    private static void sixClues(Check c) {
        BeanStreet x = Check.withRow(0, 1);
        for (int i = 1; i <= 6; i++) {
            c.due("clue " + i, x.clue(0, 1), i);
        }
        c.due("a seventh", x.clue(0, 1), -5);
        c.due("six are there", x.count(8), 6);
    }

    private static void notComeThere(Check c) {
        BeanStreet x = Check.withRow(0, 0, 0, 1);
        x.wall(1, 2);
        x.clue(0, NONE);
        c.due("two", x.fits(NONE), 2);
        c.due("past the wall", x.fits(0), 2);
        c.due("and behind it", x.fits(1), 3);
        x.breach(1, 2);
        c.due("one comes everywhere", x.fits(NONE), 0);
    }

    private static void allClues(Check c) {
        BeanStreet x = Check.withRow(0, 1, 2);
        c.due("no clue: all", x.fits(NONE), 6);
        x.clue(0, 2);
        c.due("of one", x.fits(NONE), 2);
        x.clue(1, 1);
        c.due("of both", x.fits(NONE), 1);
        c.due("201", x.fits(0), 4);
        x.clue(4, 1);
        c.due("of all three", x.fits(NONE), 0);
    }

    private static void bestToAsk(Check c) {
        BeanStreet x = Check.withRow(0, 0, 0, 1);
        x.wall(0, 1);
        x.wall(2, 3);
        // 0 and 3 leave three that one does not come to; 1 and 2 leave those two.
        c.due("the lowest of the best", x.ask(0), 1);
        c.due("alike far: not to be come to", x.ask(1), 2);
        x = new BeanStreet();
        c.due("one house", x.ask(0), 0);
        c.due("one is left", x.ask(1), 1);
        x = Check.lawful("bars", 4, 4, 3, 3, 2, 1, 0);
        c.due("each of most houses tells of itself alone", x.ask(0), 0);
        c.due("all others are left", x.ask(1), 1259);
        Move[] moves = {y -> Check.row(y, 0, 0, 1, 2), y -> y.wall(0, 1), y -> y.wall(0, 2), y -> y.clue(5, 2),
            y -> y.forget(), y -> Check.law(y, "lets if one<other and apart<3"), y -> y.force(0), y -> y.clue(2, NONE),
            y -> y.terms(0, 1), y -> y.clue(11, 3), y -> y.breach(0, 2), y -> y.forget(), y -> y.clue(3, 3)};
        BeanStreet asked = new BeanStreet();
        for (int i = 0; i < moves.length; i++) {
            moves[i].make(asked);
            isBest(c, asked, Arrays.copyOf(moves, i + 1));
        }
    }

    /** A call that changes a street. */
    private interface Move {
        int make(BeanStreet x);
    }

    /** What is asked for is told by far() of streets to which the same moves led. */
    private static void isBest(Check c, BeanStreet asked, Move[] moves) {
        int best = NONE;
        int worst = HIGH;
        for (int house = 0; house < asked.houses(); house++) {
            BeanStreet x = new BeanStreet();
            for (Move move : moves) {
                move.make(x);
            }
            int[] alike = new int[41];
            for (int i = 0; i < x.fits(NONE); i++) {
                alike[x.far(house, x.fits(i), 0) + 1]++;
            }
            int most = Arrays.stream(alike).max().orElse(0);
            if (most > 0 && most < worst) {
                worst = most;
                best = house;
            }
        }
        c.due("best behind " + moves.length + " moves", asked.ask(0), best);
        c.due("left behind " + moves.length + " moves", asked.ask(1), best == NONE ? NONE : worst);
    }

    private static void postmenSteps(Check c) {
        BeanStreet x = Check.withRow(0, 1, 2);
        c.due("both stay", x.post(0, 0, 1, 1), 0);
        c.due("one stays", x.post(0, 1, 5, 5), 1);
        c.due("one behind the other", x.post(0, 1, 1, 4), 1);
        c.due("not both at one house: about", x.post(0, 4, 1, 1), 4);
        c.due("nor past each other: about", x.post(0, 1, 1, 0), 5);
        x = Check.withRow(0, 1);
        x.terms(0, 1);
        c.due("nor by two steps", x.post(0, 1, 1, 0), NONE);
    }

    private static void fortyHouses(Check c) {
        BeanStreet x = Check.withRow(0, 0, 0, 0, 1, 1, 1);
        c.due("35 houses", x.houses(), 35);
        c.due("of 35", x.post(0, 1, 34, 33), 1);
        x = Check.withRow(0, 0, 0, 0, 0, 1, 2);
        c.due("42 houses", x.houses(), 42);
        c.due("of 42", x.post(0, 1, 41, 40), NONE);
        c.due("of 42, though all are there", x.post(0, 0, 1, 1), NONE);
    }

    private static void seeds(Check c) {
        BeanStreet x = Check.withRow(0, 1, 2);
        c.due("0", x.drunk(0, 0, 0), 0);
        c.due("1,000,000", x.drunk(1000000, 0, 0), 0);
        c.due("1,000,001", x.drunk(1000001, 0, 0), -1);
        c.due("below", x.drunk(-1, 0, 0), -1);
        c.due("far beyond", x.drunk(HIGH, 0, 0), -1);
        c.due("far below", x.drunk(LOW, 0, 0), -1);
    }

    private static void draws(Check c) {
        int[] seeds = {0, 1, 5, 906, 999999, 1000000};
        for (int seed : seeds) {
            BeanStreet x = Check.withRow(0, 1, 2);
            int[] visits = new int[6];
            long s = seed;
            int at = 4;
            visits[at]++;
            for (int i = 0; i < 500; i++) {
                s = (s * 1103 + 12345) % 1000003;
                at = RING[at][(int) (s % 2)];
                visits[at]++;
            }
            c.due("seed " + seed, x.drunk(seed, 4, 500), at);
            for (int house = 0; house < 6; house++) {
                c.due("seed " + seed + " at " + house, x.drawn(house), visits[house]);
            }
        }
    }

    private static void stays(Check c) {
        BeanStreet x = Check.lawful("bars", 0, 1, 2);
        c.due("at his house", x.drunk(7, 3, 500), 3);
        c.due("each time", x.drawn(3), 501);
        c.due("nowhere else", x.drawn(0), 0);
        c.due("the only house", new BeanStreet().drunk(0, 0, 500), 0);
        x = Check.lawful("lets if one<other and apart=2", 0, 1, 2);
        c.due("012 to 210, then he stays", x.drunk(1, 0, 3), 5);
        c.due("once there", x.drawn(0), 1);
        c.due("three times here", x.drawn(5), 3);
    }

    private static void elseAsByBeans(Check c) {
        BeanStreet x = Check.lawful("lets", 0, 1, 2);
        x.terms(1, 9);
        x.wall(0, 1);
        x.clue(0, 1);
        x.swapIf(1, 2);
        x.swapIf(0, 1);
        c.due("as many of each", Check.row(x, 4, 4), 0);
        c.due("none of these", x.count(1) + x.count(2) + x.count(3) + x.count(4), 0);
        c.due("two of those", x.count(5), 2);
        c.due("no walls", x.count(7), 0);
        c.due("no clues", x.count(8), 0);
        c.due("one swap-if", x.count(9), 1);
        c.due("laws stay", x.count(6), 1);
        c.due("and the one in force", x.count(16), 0);
        c.due("and the day", x.count(18), 9);
    }

    private static void keptByImages(Check c) {
        BeanStreet x = Check.lawful("lets", 0, 1, 2);
        x.image(0);
        x.image(1);
        x.terms(0, 1);
        x.terms(1, 5);
        Check.law(x, "bars if left=0");
        x.force(1);
        x.wall(0, 1);
        x.clue(0, 1);
        x.swapIf(0, 1);
        x.beans(3, 1);
        x.wall(2, 3);
        x.back(1);
        int[] due = {3, 1, 1, 1, 0, 0, 1, 0, 0, 0};
        for (int what = 0; what < due.length; what++) {
            c.due("count " + what, x.count(what), due[what]);
        }
        c.due("in force", x.count(16), 0);
        c.due("turn", x.count(17), 0);
        c.due("day", x.count(18), 0);
        c.due("steps", x.step(0, NONE, 0), 3);
        c.due("first", x.step(0, 0, 0), 2);
        othersThanKept(c);
    }

    /** As many walls, clues, swap-ifs as were kept, but others. */
    private static void othersThanKept(Check c) {
        BeanStreet x = Check.withRow(0, 1, 2);
        x.wall(0, 1);
        x.clue(0, 1);
        x.swapIf(0, 1);
        x.image(1);
        x.breach(0, 1);
        x.wall(3, 5);
        x.forget();
        x.clue(4, 2);
        x.keep(0);
        x.swapIf(1, 2);
        x.image(0);
        x.back(1);
        c.due("that wall", x.far(0, 1, 0), 5);
        c.due("not this one", x.far(3, 5, 0), 1);
        c.due("that clue: 102 alone", x.fits(0), 2);
        c.due("one fits", x.fits(NONE), 1);
        c.due("that swap-if", x.sorted(2), 0);
        c.due("not this one either", x.sorted(1), 1);
        x.back(0);
        c.due("this wall", x.far(3, 5, 0), 5);
        c.due("not that one", x.far(0, 1, 0), 1);
        c.due("this clue: 012 alone, as 120 is past the wall", x.fits(0), 0);
        c.due("one fits now, too", x.fits(NONE), 1);
        c.due("this swap-if", x.sorted(1), 0);
        c.due("not that one either", x.sorted(2), 2);
    }

    private static void notKeptByImages(Check c) {
        BeanStreet x = Check.withRow(0, 1, 2);
        x.image(0);
        x.feed(0, 0, 0, 0, 0);
        x.end(3);
        c.due("the tape stays", x.back(0) + x.count(10), 3);
        x.end(0);
        Check.law(x, "lets 1");
        x.drunk(0, 0, 0);
        x.back(0);
        c.due("the fault stays", x.fault(), 5);
        c.due("the drunk stays", x.drawn(0), 1);
    }

    private static void imagesStay(Check c) {
        BeanStreet x = Check.withRow(0, 1, 2);
        x.image(0);
        x.beans(3, 1);
        x.image(1);
        for (int i = 0; i < 3; i++) {
            x.beans(4, 1);
            c.due("back to 0", x.back(0), 0);
            c.due("six", x.houses(), 6);
            c.due("back to 1", x.back(1), 0);
            c.due("twenty-four", x.houses(), 24);
        }
    }

    private static void none(Check c) {
        c.due("NONE", BeanStreet.NONE, -1);
    }

    private static void calls512(Check c) {
        BeanStreet x = new BeanStreet();
        x.beans(0, 1);
        x.beans(1, 1);
        for (int i = 3; i < 512; i++) {
            c.due("call " + i, x.drunk(0, i % 2, i % 2), 0);
        }
        c.due("call 512", x.drawn(1), 1);
    }

    private static void sayTermsI(Sentences s) {
        s.says("BEANS of COLOURS 0 .. 4", TermSentenceTests::colours);
        s.says("0 .. 7 in all (a row of so many PLACES)", TermSentenceTests::sevenInAll);
        s.says("(no BEANS: one HOUSE)", TermSentenceTests::noBeans);
        s.says("numbered as rows of COLOURS, lower ones first, from 0 on", TermSentenceTests::lowerFirst);
        s.says("its COLOURS as figures in base 5, the first PLACE the highest", TermSentenceTests::figures);
        s.says("0 TURN 0 or 1 (0 at first)", TermSentenceTests::turnTerm);
        s.says("1 DAY 0 .. 99 (0)", TermSentenceTests::dayTerm);
        s.says("WALLS, 8 at most", TermSentenceTests::eightWalls);
        s.says("between two HOUSES.", TermSentenceTests::betweenTwo);
        s.says("-1 a number that can't be", TermSentenceTests::badNumbers);
        s.says("-2 there is no such HOUSE, LAW, WALL, CLUE, IMAGE", TermSentenceTests::noSuch);
        s.says("-3 it can't be by what stands", TermSentenceTests::byWhatStands);
        s.says("-5 no room", TermSentenceTests::noRoom);
        s.says("-6 a TEXT, a ROW that can't be", TermSentenceTests::textOrRow);
        s.says("The first of these in that order.", TermSentenceTests::firstInOrder);
        s.says("REFUSED by:", TermSentenceTests::refusedChangesNothing);
    }

    private static void sayTermsIII(Sentences s) {
        s.says("(COLOURS that are alike lead nowhere)", TermSentenceTests::alike);
        s.says("by EXCHANGES of PLACES in order (left, then right)", TermSentenceTests::stepOrder);
        s.says("behind these, if TURN is 1, by a TURN: the first BEAN goes to the end", TermSentenceTests::turns);
        s.says("(it TAKES 1; if it is another HOUSE)", TermSentenceTests::turnTakes);
        s.says("not through a WALL between both", TermSentenceTests::throughWalls);
        s.says("If several lead to one HOUSE, they are STEPS each.", TermSentenceTests::stepsEach);
        s.says("the fewest STEPS from a HOUSE to another one (itself 0)", TermSentenceTests::itselfZero);
        s.says("in how many rows of STEPS (1,000,000,000 at most)", TermSentenceTests::manyRows);
        s.says("LEAST: the least that STEPS TAKE together.", TermSentenceTests::least);
        s.says("the first row of HOUSES of fewest STEPS, lower ones ahead", TermSentenceTests::firstWay);
        s.says("REACHED: HOUSES to which one comes (itself, too).", TermSentenceTests::reachedItself);
        s.says("FARTHEST: the HOUSES that are FAR most of those REACHED.", TermSentenceTests::farthestOfReached);
        s.says("BACK: the HOUSE read backward.", TermSentenceTests::backward);
        s.says("INVERSIONS: pairs of PLACES of which the left one's COLOUR is greater.",
                TermSentenceTests::inversions);
        s.says("PARTED: the fewest WALLS more (between HOUSES next to each other)", TermSentenceTests::wallsMore);
        s.says("ROWS of n STEPS 0 .. 12 from a HOUSE", TermSentenceTests::zeroToTwelve);
        s.says("A ROUND: all HOUSES, 14 at most, from HOME, each once, by STEPS", TermSentenceTests::roundOfAll);
        s.says("and a STEP home", TermSentenceTests::stepHome);
        s.says("(one HOUSE alone: none)", TermSentenceTests::oneAlone);
        s.says("the first as a row of HOUSES.", TermSentenceTests::firstRound);
    }

    private static void sayMachinesAndClues(Sentences s) {
        s.says("A MACHINE is a row of SWAP-IFS, 12 at most", TermSentenceTests::twelveSwapIfs);
        s.says("two PLACES, left ahead of right; if the COLOUR", TermSentenceTests::leftAheadOfRight);
        s.says("if the COLOUR at the left is greater, both change about", TermSentenceTests::greater);
        s.says("It SORTS a HOUSE, if that ends as HOME.", TermSentenceTests::endsAsHome);
        s.says("NEEDLESS are SWAP-IFS without each of which it SORTS as many at least.",
                TermSentenceTests::asManyAtLeast);
        s.says("CLUES, 6 at most", TermSentenceTests::sixClues);
        s.says("(NONE: one does not come there)", TermSentenceTests::notComeThere);
        s.says("FITS: HOUSES by which all CLUES are so.", TermSentenceTests::allClues);
        s.says("the best is the one by which that is least, the lowest.", TermSentenceTests::bestToAsk);
        s.says("minute by minute each makes a STEP or stays, never both at one HOUSE, nor past each other"
                + " between two", TermSentenceTests::postmenSteps);
        s.says("the fewest minutes (40 HOUSES at most)", TermSentenceTests::fortyHouses);
    }

    private static void sayTermsIV(Sentences s) {
        s.says("s is the SEED (0 .. 1,000,000)", TermSentenceTests::seeds);
        s.says("s becomes (s times 1103 and 12345) modulo 1,000,003, it is s modulo m", TermSentenceTests::draws);
        s.says("(in order; none: he stays)", TermSentenceTests::stays);
        s.says("the BEANS become as many of each (all else as by beans())", TermSentenceTests::elseAsByBeans);
        s.says("BACK to one all that it keeps is as it was then", TermSentenceTests::keptByImages);
        s.says("IMAGES 0, 1 keep all but the TAPE, FAULT, the latest DRUNK", TermSentenceTests::notKeptByImages);
        s.says("(IMAGES stay)", TermSentenceTests::imagesStay);
        s.says("`NONE = -1`: There is none.", TermSentenceTests::none);
    }

    public static void main(String[] args) throws IOException {
        Sentences s = new Sentences();
        s.of("What it is");
        s.says("An object is used for at most 512 calls after it has been made", TermSentenceTests::calls512);
        s.of("Terms");
        sayTermsI(s);
        sayTermsIII(s);
        sayMachinesAndClues(s);
        sayTermsIV(s);
        s.finish();
    }
}
