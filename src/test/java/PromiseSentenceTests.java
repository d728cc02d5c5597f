import java.io.IOException;

/** The document's promises 1 to 37: a test for each sentence that names an edge. */
public final class PromiseSentenceTests {
    private static final int NONE = BeanStreet.NONE;
    private static final int LOW = Integer.MIN_VALUE;
    private static final int HIGH = Integer.MAX_VALUE;

    /** Asks one thing of a house. */
    private interface OfHouse {
        long answer(BeanStreet x, int house);
    }

    private PromiseSentenceTests() {
    }

    /** No house of 012 is below 0 or beyond 5. */
    private static void noHouse(Check c, String call, OfHouse ask) {
        BeanStreet x = Check.withRow(0, 1, 2);
        for (int house : new int[] {6, 7, 1260, HIGH, -1, -2, LOW}) {
            c.due(call + " of house " + house, ask.answer(x, house), NONE);
        }
        c.isTrue(call + " of the first", ask.answer(x, 0) != NONE);
        c.isTrue(call + " of the last", ask.answer(x, 5) != NONE);
        c.due(call + " is not refused", x.status() + x.count(11) + x.count(12), 0);
        BeanStreet empty = new BeanStreet();
        c.due(call + " of house 1 without beans", ask.answer(empty, 1), NONE);
    }

    private static void newObject(Check c) {
        BeanStreet x = new BeanStreet();
        for (int what = 0; what <= 18; what++) {
            c.due("count " + what, x.count(what), what == 16 ? NONE : 0);
        }
        c.due("houses", x.houses(), 1);
        c.due("status", x.status(), 0);
        c.due("fault", x.fault(), NONE);
        c.due("no image 0", x.back(0), -2);
        c.due("no image 1", x.back(1), -2);
        BeanStreet other = new BeanStreet();
        other.beans(0, 3);
        c.due("each for itself", x.count(0), 0);
    }

    private static void whatThereWere(Check c) {
        BeanStreet x = new BeanStreet();
        c.due("none at first", x.beans(3, 7), 0);
        c.due("seven", x.beans(3, 0), 7);
        c.due("none again", x.beans(3, 2), 0);
        c.due("the same number", x.beans(3, 2), 2);
        c.due("of another colour", x.beans(2, 2), 0);
        c.due("houses", x.houses(), 6);
    }

    private static void wallsAndCluesGo(Check c) {
        BeanStreet x = Check.withRow(0, 1, 2);
        x.wall(0, 1);
        x.clue(0, 1);
        x.beans(3, 1);
        c.due("walls", x.count(7), 0);
        c.due("clues", x.count(8), 0);
        c.due("all fit", x.fits(NONE), 24);
        x.wall(0, 1);
        x.clue(0, 1);
        c.due("refused", x.beans(3, 5), -1);
        c.due("walls stay then", x.count(7), 1);
        c.due("clues stay then", x.count(8), 1);
        x.beans(3, 1);
        c.due("no wall by the same number", x.count(7), 0);
        c.due("no clue", x.count(8), 0);
    }

    private static void swapIfsGo(Check c) {
        BeanStreet x = Check.withRow(0, 1, 2, 3);
        x.swapIf(0, 3);
        x.swapIf(1, 2);
        x.swapIf(2, 3);
        x.swapIf(0, 1);
        x.beans(4, 1);
        c.due("more places: all stay", x.count(9), 4);
        x.beans(4, 0);
        c.due("four places: all stay", x.count(9), 4);
        x.beans(3, 0);
        c.due("three places: two stay", x.count(9), 2);
        // 210 by (1, 2) is 201, by (0, 1) then 021.
        c.due("in their order", x.sorted(5), 1);
        x.beans(3, 1);
        c.due("they do not come again", x.count(9), 2);
        x.beans(0, 0);
        x.beans(1, 0);
        x.beans(2, 0);
        c.due("one place: none", x.count(9), 0);
    }

    private static void refusedBeans(Check c) {
        BeanStreet x = new BeanStreet();
        c.due("below", x.beans(0, -1), -1);
        c.due("far below", x.beans(0, LOW), -1);
        c.due("eight", x.beans(0, 8), -1);
        c.due("far beyond", x.beans(0, HIGH), -1);
        c.due("colour below", x.beans(-1, 0), -1);
        c.due("colour beyond", x.beans(5, 0), -1);
        x.beans(0, 3);
        x.beans(1, 3);
        c.due("eight in all", x.beans(2, 2), -1);
        c.due("seven in all", x.beans(2, 1), 0);
        c.due("eight by more of one", x.beans(1, 4), -1);
        c.due("none came", x.count(0), 7);
        c.due("three of it", x.count(2), 3);
        c.due("refused", x.count(11), 8);
    }

    private static void howManyHouses(Check c) {
        c.due("none: one", new BeanStreet().houses(), 1);
        c.due("one", Check.withRow(4).houses(), 1);
        c.due("alike", Check.withRow(4, 4, 4, 4, 4, 4, 4).houses(), 1);
        c.due("two", Check.withRow(0, 4).houses(), 2);
        c.due("most", Check.withRow(0, 0, 1, 1, 2, 3, 4).houses(), 1260);
        c.due("three of one", Check.withRow(0, 0, 0, 1, 2, 3, 4).houses(), 840);
    }

    private static void codeNone(Check c) {
        noHouse(c, "code", (x, house) -> x.code(house));
        c.due("the last of most", Check.withRow(0, 0, 1, 1, 2, 3, 4).code(1259), 73275);
        c.due("beyond most", Check.withRow(0, 0, 1, 1, 2, 3, 4).code(1260), NONE);
    }

    private static void houseNone(Check c) {
        BeanStreet x = Check.withRow(0, 1, 2);
        c.due("012", x.house(7), 0);
        c.due("210", x.house(55), 5);
        c.due("011", x.house(6), NONE);
        c.due("0", x.house(0), NONE);
        c.due("444", x.house(124), NONE);
        c.due("1012", x.house(125 + 7), NONE);
        c.due("below", x.house(-1), NONE);
        c.due("below, as far as 012", x.house(-7), NONE);
        c.due("far below", x.house(LOW), NONE);
        c.due("far beyond", x.house(HIGH), NONE);
        c.due("seven figures", Check.withRow(4, 4, 4, 4, 4, 4, 4).house(78124), 0);
        c.due("eight figures", Check.withRow(4, 4, 4, 4, 4, 4, 4).house(78125), NONE);
    }

    private static void refusedTerms(Check c) {
        BeanStreet x = new BeanStreet();
        c.due("no such", x.terms(2, 0), -1);
        c.due("below", x.terms(-1, 0), -1);
        c.due("far beyond", x.terms(HIGH, 0), -1);
        c.due("far below", x.terms(LOW, 0), -1);
        c.due("turn", x.terms(0, 2), -1);
        c.due("turn below", x.terms(0, LOW), -1);
        c.due("day", x.terms(1, 100), -1);
        c.due("day below", x.terms(1, -1), -1);
        c.due("refused", x.count(11), 8);
        c.due("turn stays", x.count(17), 0);
        c.due("day stays", x.count(18), 0);
        c.due("what it was", x.terms(1, 99), 0);
        c.due("so, too", x.terms(1, 99), 99);
    }

    private static void highestFirst(Check c) {
        BeanStreet x = new BeanStreet();
        c.due("twenty", x.feed(0x04030201, 0x00010203, 0, 0, 0), 20);
        x.end(7);
        c.due("4321012", x.code(x.row()), 73257);
        x.feed(0x00000001, 0, 0, 0, 0);
        c.due("forty", x.feed(0x02000000, 0, 0, 0, 0), 40);
        c.due("behind it", x.end(21), 21);
        x.end(20);
        x.end(4);
        c.due("the lowest byte is the fourth", x.row(), 0);
        c.due("0001", x.code(0), 1);
    }

    private static void feed400(Check c) {
        BeanStreet x = new BeanStreet();
        for (int i = 1; i <= 20; i++) {
            c.due("feed " + i, x.feed(HIGH, LOW, -1, 0, 1), 20 * i);
        }
        c.due("420", x.feed(0, 0, 0, 0, 0), NONE);
        c.due("none came", x.count(10), 400);
        x.end(381);
        c.due("401", x.feed(0, 0, 0, 0, 0), NONE);
        c.due("none came then", x.count(10), 381);
        x.end(380);
        c.due("400", x.feed(0, 0, 0, 0, 0), 400);
        c.due("not refused", x.status() + x.count(11), 0);
    }

    private static void endNone(Check c) {
        BeanStreet x = new BeanStreet();
        c.due("none of none", x.end(0), 0);
        c.due("one of none", x.end(1), NONE);
        x.feed(0, 0, 0, 0, 0);
        c.due("21 of 20", x.end(21), NONE);
        c.due("below", x.end(-1), NONE);
        c.due("far below", x.end(LOW), NONE);
        c.due("far beyond", x.end(HIGH), NONE);
        c.due("20 are there", x.count(10), 20);
        c.due("20 of 20", x.end(20), 20);
        c.due("19", x.end(19), 19);
        c.due("20 of 19", x.end(20), NONE);
        c.due("not refused", x.status() + x.count(11), 0);
    }

    private static void firstBytesAlone(Check c) {
        BeanStreet x = new BeanStreet();
        x.feed(0x00010900, -1, -1, -1, -1);
        x.end(2);
        c.due("01", x.row(), 0);
        c.due("two beans", x.count(0), 2);
        Check.write(x, "letsif");
        x.end(4);
        c.due("lets", x.law(), 0);
        Check.write(x, "takes 77 if 1=2");
        x.end(7);
        c.due("takes 7", x.law(), 1);
        x.force(1);
        c.due("no more than 7", x.step(0, 0, 1), 7);
        Check.write(x, "lets");
        x.end(3);
        c.due("let", x.law(), -6);
        c.due("at its first", x.fault(), 0);
        Check.write(x, "takes 1");
        x.end(6);
        c.due("takes", x.law(), -6);
        c.due("at the end", x.fault(), 6);
        x.feed(0x6c657473, -1, -1, -1, -1);
        x.end(4);
        Check.write(x, ";bars");
        c.due("what comes then comes behind them", x.law(), 2);
        x.force(2);
        c.due("barred", x.step(0, NONE, 0), 0);
    }

    private static void rowEmpties(Check c) {
        BeanStreet x = new BeanStreet();
        c.due("its house", Check.row(x, 2, 0, 1), 4);
        c.due("empty", x.count(10), 0);
        Check.row(x, 9);
        c.due("empty when refused", x.count(10), 0);
        x.feed(0, 0, 0, 0, 0);
        x.row();
        c.due("empty of twenty", x.count(10), 0);
    }

    private static void rowRefused(Check c) {
        BeanStreet x = Check.withRow(0, 1, 2);
        x.wall(0, 1);
        c.due("empty", x.row(), -6);
        c.due("eight", Check.row(x, 0, 0, 0, 0, 0, 0, 0, 0), -6);
        c.due("twenty", x.feed(0, 0, 0, 0, 0), 20);
        c.due("twenty as a row", x.row(), -6);
        c.due("5", Check.row(x, 0, 5, 1), -6);
        c.due("the last one 255", Check.row(x, 0, 1, 255), -6);
        c.due("the first one 128", Check.row(x, 128, 0), -6);
        c.due("a figure's sign", Check.row(x, '1'), -6);
        c.due("seven and one that is no colour", Check.row(x, 0, 0, 0, 0, 0, 0, 9), -6);
        c.due("all refused", x.count(15), 8);
        c.due("the houses stay", x.houses(), 6);
        c.due("the wall stays", x.count(7), 1);
        c.due("one", Check.row(x, 4), 0);
        c.due("seven", Check.row(x, 4, 4, 3, 3, 2, 1, 0), 1259);
        c.due("not refused", x.status(), 0);
    }

    private static void lawNumber(Check c) {
        BeanStreet x = new BeanStreet();
        c.due("the first", Check.law(x, "lets"), 0);
        c.due("empty", x.count(10), 0);
        c.due("refused", Check.law(x, "what"), -6);
        c.due("empty then", x.count(10), 0);
        c.due("the next", Check.law(x, "lets"), 1);
        c.due("two", x.count(6), 2);
    }

    private static void lawNoRoom(Check c) {
        BeanStreet x = new BeanStreet();
        for (int i = 0; i < 6; i++) {
            Check.law(x, "lets");
        }
        Check.write(x, "what");
        c.due("not read", x.law(), -5);
        c.due("empty then, too", x.count(10), 0);
        c.due("no fault", x.fault(), NONE);
        c.due("of an empty tape, too", x.law(), -5);
        c.due("no -6", x.count(15), 0);
    }

    private static void lawBlanks(Check c) {
        BeanStreet x = new BeanStreet();
        c.due("empty", x.law(), -6);
        c.due("its end", x.fault(), 0);
        c.due("one blank", Check.law(x, " "), -6);
        c.due("its end is 1", x.fault(), 1);
        c.due("twenty blanks", Check.law(x, " ".repeat(20)), -6);
        c.due("its end is 20", x.fault(), 20);
        c.due("no law", x.count(6), 0);
    }

    private static void latestFault(Check c) {
        BeanStreet x = new BeanStreet();
        Check.law(x, "lets 1");
        c.due("its place", x.fault(), 5);
        Check.law(x, "  what");
        c.due("the latest", x.fault(), 2);
        Check.row(x, 9);
        c.due("row() reads no text", x.fault(), 2);
        for (int i = 0; i < 6; i++) {
            Check.law(x, i < 5 ? "lets" : "bars");
        }
        Check.law(x, "what");
        c.due("nor does law() without room", x.fault(), NONE);
    }

    private static void faultNone(Check c) {
        BeanStreet x = new BeanStreet();
        c.due("ahead of any", x.fault(), NONE);
        Check.law(x, "what");
        Check.law(x, "lets");
        c.due("behind a good one", x.fault(), NONE);
    }

    private static void whichWas(Check c) {
        BeanStreet x = Check.withRow(0, 1);
        Check.law(x, "lets");
        Check.law(x, "bars");
        c.due("none", x.force(NONE), NONE);
        c.due("none was", x.force(1), NONE);
        c.due("1 was", x.force(0), 1);
        c.due("0 was", x.force(0), 0);
        c.due("0 was then, too", x.force(NONE), 0);
        c.due("none is", x.count(16), NONE);
    }

    private static void noSuchLaw(Check c) {
        BeanStreet x = new BeanStreet();
        c.due("of none", x.force(0), -2);
        Check.law(x, "lets");
        x.force(0);
        c.due("beyond", x.force(1), -2);
        c.due("below NONE", x.force(-2), -2);
        c.due("far below", x.force(LOW), -2);
        c.due("far beyond", x.force(HIGH), -2);
        c.due("stays", x.count(16), 0);
        c.due("refused", x.count(12), 5);
    }

    private static void refusedWall(Check c) {
        BeanStreet x = Check.withRow(0, 1, 2);
        c.due("beyond", x.wall(0, 6), -2);
        c.due("one beyond", x.wall(6, 0), -2);
        c.due("below", x.wall(0, -1), -2);
        c.due("far", x.wall(HIGH, LOW), -2);
        c.due("the same", x.wall(5, 5), -3);
        c.due("there", x.wall(0, 5), 1);
        c.due("there already", x.wall(0, 5), -3);
        c.due("there, turned", x.wall(5, 0), -3);
        c.due("one is there", x.count(7), 1);
        int walls = 1;
        for (int i = 1; i < 5; i++) {
            walls += x.wall(0, i) > 0 ? 1 : 0;
            walls += x.wall(i, 5) > 0 ? 1 : 0;
        }
        c.due("eight and no more", walls, 8);
        c.due("no room", x.wall(1, 2), -5);
    }

    private static void refusedBreach(Check c) {
        BeanStreet x = Check.withRow(0, 1, 2);
        c.due("of none", x.breach(0, 1), -3);
        x.wall(0, 1);
        x.wall(2, 3);
        c.due("beyond", x.breach(0, 6), -2);
        c.due("below", x.breach(-1, 0), -2);
        c.due("the same", x.breach(0, 0), -3);
        c.due("of two walls' houses", x.breach(0, 2), -3);
        c.due("two are there", x.count(7), 2);
        c.due("turned", x.breach(1, 0), 1);
        c.due("gone", x.breach(0, 1), -3);
        c.due("the last", x.breach(2, 3), 0);
        c.due("refused by -3", x.count(13), 4);
    }

    private static void howManySteps(Check c) {
        c.due("of one house", new BeanStreet().step(0, NONE, 0), 0);
        c.due("two", Check.withRow(0, 1, 2).step(0, NONE, 0), 2);
        BeanStreet x = Check.lawful("lets", 4, 3, 2, 1, 1, 0, 0);
        x.terms(0, 1);
        c.due("most of all: nineteen exchanges, a turn", x.step(1259, NONE, 0), 20);
        c.due("the last", x.step(1259, 19, 1), 1);
        c.due("no more", x.step(1259, 20, 1), NONE);
    }

    private static void stepNone(Check c) {
        noHouse(c, "step", (x, house) -> x.step(house, NONE, 0));
        noHouse(c, "where to", (x, house) -> x.step(house, 1, 0));
        BeanStreet x = Check.withRow(0, 1, 2);
        c.due("where to", x.step(0, 1, 0), 1);
        c.due("beyond", x.step(0, 2, 0), NONE);
        c.due("takes beyond", x.step(0, 2, 1), NONE);
        c.due("below NONE", x.step(0, -2, 0), NONE);
        c.due("far below", x.step(0, LOW, 0), NONE);
        c.due("far beyond", x.step(0, HIGH, 0), NONE);
        c.due("no such what", x.step(0, 0, 2), NONE);
        c.due("what below", x.step(0, 0, -1), NONE);
        c.due("no step at all", new BeanStreet().step(0, 0, 0), NONE);
    }

    private static void inNoRow(Check c) {
        BeanStreet x = Check.lawful("lets if one<other", 0, 1);
        c.due("there", x.far(0, 1, 1), 1);
        c.due("not back", x.far(1, 0, 1), 0);
        c.due("itself", x.far(1, 1, 1), 1);
    }

    private static void farNone(Check c) {
        BeanStreet x = Check.lawful("lets if one<other", 0, 1);
        c.due("far", x.far(1, 0, 0), NONE);
        c.due("least", x.far(1, 0, 2), NONE);
        for (int what = 0; what < 3; what++) {
            int asked = what;
            noHouse(c, "from, " + what, (y, house) -> y.far(house, 3, asked));
            noHouse(c, "to, " + what, (y, house) -> y.far(3, house, asked));
        }
        c.due("no such what", x.far(0, 1, 3), NONE);
        c.due("what below", x.far(0, 1, -1), NONE);
        c.due("of itself", x.far(0, 0, 3), NONE);
    }

    private static void wayFrom(Check c) {
        BeanStreet x = Check.withRow(0, 1, 2);
        c.due("from", x.way(5, 0, 0), 5);
        c.due("to", x.way(5, 0, 3), 0);
        c.due("itself", x.way(5, 5, 0), 5);
    }

    private static void wayNone(Check c) {
        noHouse(c, "from", (x, house) -> x.way(house, 3, 0));
        noHouse(c, "to", (x, house) -> x.way(3, house, 0));
        BeanStreet x = Check.withRow(0, 1, 2);
        c.due("behind its end", x.way(5, 0, 4), NONE);
        c.due("below", x.way(5, 0, -1), NONE);
        c.due("far below", x.way(5, 0, LOW), NONE);
        c.due("far beyond", x.way(5, 0, HIGH), NONE);
        c.due("itself alone", x.way(5, 5, 1), NONE);
        x.wall(0, 1);
        x.wall(0, 2);
        c.due("one does not come there", x.way(5, 0, 0), NONE);
        c.due("nor from there", x.way(0, 5, 0), NONE);
        c.due("to itself", x.way(0, 0, 0), 0);
    }

    private static void reachNone(Check c) {
        for (int what = 0; what < 4; what++) {
            int asked = what;
            noHouse(c, "reach " + what, (x, house) -> x.reach(house, asked));
        }
        BeanStreet x = Check.withRow(0, 1, 2);
        c.due("no such what", x.reach(0, 4), NONE);
        c.due("what below", x.reach(0, -1), NONE);
        c.due("far beyond", x.reach(0, HIGH), NONE);
    }

    private static void reachAll(Check c) {
        BeanStreet x = Check.withRow(4, 4, 3, 3, 2, 1, 0);
        c.due("all", x.reach(0, 0), 1260);
        c.due("how far", x.reach(0, 1), 19);
        c.due("how many", x.reach(0, 2), 1);
        c.due("which", x.reach(0, 3), 1259);
        x = Check.lawful("lets", 0, 1, 2);
        // Of 012 two exchanges make 120 and 201.
        c.due("two are so far", x.reach(0, 2), 2);
        c.due("the lowest", x.reach(0, 3), 3);
        x = new BeanStreet();
        c.due("one house", x.reach(0, 0), 1);
        c.due("is the farthest", x.reach(0, 1), 0);
        c.due("alone", x.reach(0, 2), 1);
        c.due("itself", x.reach(0, 3), 0);
    }

    private static void readNone(Check c) {
        noHouse(c, "back", (x, house) -> x.read(house, 0));
        noHouse(c, "inversions", (x, house) -> x.read(house, 1));
        BeanStreet x = Check.withRow(0, 1, 2);
        c.due("no such what", x.read(0, 2), NONE);
        c.due("what below", x.read(0, -1), NONE);
    }

    private static void partedNone(Check c) {
        BeanStreet x = Check.withRow(0, 1, 2);
        for (int house = 0; house < 6; house++) {
            c.due("the same", x.parted(house, house), NONE);
        }
        noHouse(c, "from", (y, house) -> y.parted(house, 3));
        noHouse(c, "to", (y, house) -> y.parted(3, house));
        c.due("the only house", new BeanStreet().parted(0, 0), NONE);
    }

    private static void partedAlready(Check c) {
        BeanStreet x = Check.lawful("lets if one<other", 0, 1);
        c.due("there", x.parted(0, 1), 1);
        c.due("parted already", x.parted(1, 0), 0);
    }

    private static void rowsToAny(Check c) {
        BeanStreet x = Check.withRow(0, 1, 2);
        long sum = 0;
        for (int house = 0; house < 6; house++) {
            sum += x.rows(0, house, 5);
        }
        c.due("as many as to each", x.rows(0, NONE, 5), sum);
        c.due("two each time", sum, 32);
        c.due("none leads on", new BeanStreet().rows(0, NONE, 1), 0);
        c.due("no step", new BeanStreet().rows(0, NONE, 0), 1);
        x = Check.lawful("lets", 4, 3, 2, 1, 1, 0, 0);
        x.terms(0, 1);
        c.due("more than an int holds", x.rows(0, NONE, 12), 4096000000000000L);
    }

    private static void rowsNone(Check c) {
        noHouse(c, "from", (x, house) -> x.rows(house, 3, 1));
        BeanStreet x = Check.withRow(0, 1, 2);
        c.due("to beyond", x.rows(0, 6, 1), NONE);
        c.due("to below NONE", x.rows(0, -2, 1), NONE);
        c.due("to far below", x.rows(0, LOW, 1), NONE);
        c.due("from beyond to any", x.rows(6, NONE, 1), NONE);
        c.due("thirteen", x.rows(0, 0, 13), NONE);
        c.due("below", x.rows(0, 0, -1), NONE);
    }

    private static void whetherRound(Check c) {
        BeanStreet x = Check.withRow(0, 1, 2);
        c.due("there is", x.round(NONE), 1);
        x.wall(0, 1);
        c.due("there is none", x.round(NONE), 0);
        x.breach(0, 1);
        c.due("there is again", x.round(NONE), 1);
        c.due("of two", Check.withRow(0, 1).round(NONE), 1);
        c.due("of one", Check.withRow(0, 0).round(NONE), 0);
    }

    private static void roundNone(Check c) {
        BeanStreet x = Check.withRow(0, 1, 2);
        c.due("the last", x.round(5), 2);
        c.due("behind it", x.round(6), NONE);
        c.due("below NONE", x.round(-2), NONE);
        c.due("far below", x.round(LOW), NONE);
        c.due("far beyond", x.round(HIGH), NONE);
        x.wall(0, 1);
        c.due("there is none", x.round(0), NONE);
        Check.row(x, 0, 0, 0, 0, 1, 1);
        c.due("fifteen", x.round(NONE), NONE);
        c.due("the first of fifteen", x.round(0), NONE);
        x.terms(0, 1);
        c.due("fifteen by turns", x.round(NONE), NONE);
        Check.row(x, 0, 1, 2, 3, 4, 0, 1);
        c.due("1260", x.round(NONE), NONE);
    }

    private static void refusedSwapIf(Check c) {
        BeanStreet x = Check.withRow(0, 1, 2);
        c.due("turned", x.swapIf(2, 1), -1);
        c.due("the same", x.swapIf(2, 2), -1);
        c.due("below", x.swapIf(-1, 1), -1);
        c.due("beyond", x.swapIf(1, 3), -1);
        c.due("both beyond", x.swapIf(3, 4), -1);
        c.due("far", x.swapIf(LOW, HIGH), -1);
        c.due("far beyond", x.swapIf(0, HIGH), -1);
        c.due("none came", x.count(9), 0);
        c.due("one place", Check.withRow(0).swapIf(0, 1), -1);
        c.due("no place", new BeanStreet().swapIf(0, 0), -1);
        for (int i = 1; i <= 12; i++) {
            c.due("swap-if " + i, x.swapIf(1, 2), i);
        }
        c.due("no room", x.swapIf(1, 2), -5);
        c.due("refused by -1", x.count(11), 7);
        c.due("refused by -5", x.count(14), 1);
    }

    private static void keepFirst(Check c) {
        BeanStreet x = Check.withRow(0, 1, 2);
        x.swapIf(0, 1);
        x.swapIf(1, 2);
        x.swapIf(0, 1);
        c.due("all", x.keep(3), 3);
        c.due("two", x.keep(2), 3);
        c.due("the first: 201 is 021, 012", x.sorted(4), 0);
        c.due("and not the third: 120 is 102", x.sorted(3), 2);
        c.due("none", x.keep(0), 2);
        c.due("none of none", x.keep(0), 0);
        c.due("as it is", x.sorted(3), 3);
    }

    private static void refusedKeep(Check c) {
        BeanStreet x = Check.withRow(0, 1, 2);
        c.due("one of none", x.keep(1), -1);
        x.swapIf(0, 1);
        c.due("below", x.keep(-1), -1);
        c.due("two of one", x.keep(2), -1);
        c.due("far beyond", x.keep(HIGH), -1);
        c.due("far below", x.keep(LOW), -1);
        c.due("one is there", x.count(9), 1);
        c.due("refused", x.count(11), 5);
    }

    private static void firstUnsorted(Check c) {
        BeanStreet x = Check.withRow(0, 1, 2);
        c.due("by none", x.sorts(1), 1);
        x.swapIf(1, 2);
        c.due("102", x.sorts(1), 2);
        x.swapIf(0, 1);
        c.due("201", x.sorts(1), 4);
    }

    private static void needlessBits(Check c) {
        BeanStreet x = Check.withRow(0, 1);
        c.due("of none", x.sorts(2), 0);
        x.swapIf(0, 1);
        c.due("needed", x.sorts(2), 0);
        for (int i = 2; i <= 12; i++) {
            x.swapIf(0, 1);
        }
        c.due("each of twelve alike", x.sorts(2), 4095);
        x = Check.withRow(0, 0);
        x.swapIf(0, 1);
        c.due("nothing to sort", x.sorts(2), 1);
    }

    private static void fewestFirst(Check c) {
        BeanStreet x = Check.withRow(0, 1, 2);
        c.due("of none", x.sorts(3), 0);
        x.swapIf(0, 1);
        x.swapIf(0, 2);
        x.swapIf(0, 1);
        c.due("one sorts two, as all do", x.sorts(3), 1);
        x = Check.withRow(0, 0);
        x.swapIf(0, 1);
        c.due("none sorts all", x.sorts(3), 0);
        x = Check.withRow(0, 1);
        for (int i = 0; i < 12; i++) {
            x.swapIf(0, 1);
        }
        c.due("one of twelve", x.sorts(3), 1);
    }

    private static void sortsNone(Check c) {
        BeanStreet x = new BeanStreet();
        c.due("one house", x.sorts(1), NONE);
        x = Check.withRow(0, 1);
        x.swapIf(0, 1);
        c.due("all", x.sorts(1), NONE);
        c.due("no such what", x.sorts(4), NONE);
        c.due("what below", x.sorts(-1), NONE);
        c.due("far beyond", x.sorts(HIGH), NONE);
        c.due("not refused", x.status(), 0);
    }

    private static void sortedNone(Check c) {
        noHouse(c, "sorted", (x, house) -> x.sorted(house));
        c.due("the only house", new BeanStreet().sorted(0), 0);
    }

    private static void refusedClue(Check c) {
        BeanStreet x = Check.withRow(0, 1, 2);
        c.due("below NONE", x.clue(0, -2), -1);
        c.due("far below", x.clue(0, LOW), -1);
        c.due("beyond", x.clue(6, 0), -2);
        c.due("below", x.clue(-1, 0), -2);
        c.due("both", x.clue(-1, -2), -1);
        c.due("none came", x.count(8), 0);
        c.due("NONE", x.clue(0, NONE), 1);
        c.due("none", x.clue(0, 0), 2);
        c.due("far beyond", x.clue(0, HIGH), 3);
        for (int i = 4; i <= 6; i++) {
            c.due("clue " + i, x.clue(5, 3), i);
        }
        c.due("no room", x.clue(5, 3), -5);
        c.due("no room, but no such number", x.clue(5, -2), -1);
        c.due("no room, but no such house", x.clue(6, 3), -2);
    }

    private static void forgetAll(Check c) {
        BeanStreet x = Check.withRow(0, 1, 2);
        c.due("none", x.forget(), 0);
        for (int i = 0; i < 7; i++) {
            x.clue(i % 6, 1);
        }
        c.due("no status", x.status(), -5);
        c.due("none fits", x.fits(NONE), 0);
        c.due("no house to ask", x.ask(0), NONE);
        c.due("six", x.forget(), 6);
        c.due("that stays", x.status(), -5);
        c.due("none is left", x.count(8), 0);
        c.due("all fit", x.fits(NONE), 6);
        c.due("two are left at worst", x.ask(1), 2);
        c.due("room again", x.clue(0, 1), 1);
    }

    private static void howManyFit(Check c) {
        BeanStreet x = Check.withRow(0, 1, 2);
        c.due("all", x.fits(NONE), 6);
        c.due("the last", x.fits(5), 5);
        x.clue(0, 0);
        c.due("itself", x.fits(NONE), 1);
        c.due("which", x.fits(0), 0);
        x.clue(0, 1);
        c.due("none", x.fits(NONE), 0);
        c.due("of the only house", new BeanStreet().fits(NONE), 1);
        x = Check.withRow(4, 4, 3, 3, 2, 1, 0);
        c.due("most", x.fits(NONE), 1260);
        c.due("the last of most", x.fits(1259), 1259);
        x.clue(0, 19);
        c.due("the farthest of most", x.fits(0), 1259);
        c.due("it alone", x.fits(NONE), 1);
    }

    private static void fitsNone(Check c) {
        BeanStreet x = Check.withRow(0, 1, 2);
        c.due("beyond", x.fits(6), NONE);
        c.due("below NONE", x.fits(-2), NONE);
        c.due("far below", x.fits(LOW), NONE);
        c.due("far beyond", x.fits(HIGH), NONE);
        x.clue(0, 1);
        c.due("the last", x.fits(1), 2);
        c.due("behind it", x.fits(2), NONE);
        x.clue(0, 2);
        c.due("the first of none", x.fits(0), NONE);
    }

    private static void askNone(Check c) {
        BeanStreet x = Check.withRow(0, 1, 2);
        c.due("best", x.ask(0), 0);
        c.due("left", x.ask(1), 2);
        c.due("no such what", x.ask(2), NONE);
        c.due("what below", x.ask(-1), NONE);
        x.clue(0, HIGH);
        c.due("none fits", x.ask(0), NONE);
        c.due("none is left", x.ask(1), NONE);
        x.forget();
        x.clue(0, 0);
        c.due("one fits: any will do", x.ask(0), 0);
        c.due("one is left", x.ask(1), 1);
    }

    private static void postNone(Check c) {
        BeanStreet x = Check.withRow(0, 0, 1);
        c.due("past each other in a row of three", x.post(0, 2, 2, 0), NONE);
        c.due("from the same", x.post(0, 1, 0, 2), NONE);
        c.due("to the same", x.post(0, 1, 2, 1), NONE);
        c.due("both the same", x.post(0, 0, 0, 0), NONE);
        noHouse(c, "one", (y, house) -> y.post(house, 1, 2, 3));
        noHouse(c, "one to", (y, house) -> y.post(1, house, 2, 3));
        noHouse(c, "other", (y, house) -> y.post(1, 2, house, 3));
        noHouse(c, "other to", (y, house) -> y.post(1, 2, 3, house));
        c.due("the only house", new BeanStreet().post(0, 0, 0, 0), NONE);
        c.due("more than 40", Check.withRow(0, 0, 0, 0, 0, 1, 2).post(0, 0, 1, 1), NONE);
        c.due("not refused", x.status(), 0);
    }

    private static void drunkSteps(Check c) {
        BeanStreet x = Check.withRow(0, 1);
        c.due("none", x.drunk(0, 1, 0), 1);
        c.due("one", x.drunk(0, 1, 1), 0);
        c.due("500", x.drunk(0, 1, 500), 1);
        c.due("kept", x.drawn(0), 250);
        c.due("501", x.drunk(0, 1, 501), -1);
        c.due("below", x.drunk(0, 1, -1), -1);
        c.due("the latest is still", x.drawn(0), 250);
        x.drunk(0, 1, 2);
        c.due("the latest now", x.drawn(0), 1);
    }

    private static void refusedDrunk(Check c) {
        BeanStreet x = Check.withRow(0, 1);
        c.due("seed below", x.drunk(-1, 0, 0), -1);
        c.due("seed beyond", x.drunk(1000001, 0, 0), -1);
        c.due("steps far beyond", x.drunk(0, 0, HIGH), -1);
        c.due("steps far below", x.drunk(0, 0, LOW), -1);
        c.due("house beyond", x.drunk(0, 2, 0), -2);
        c.due("house below", x.drunk(0, -1, 0), -2);
        c.due("seed and house", x.drunk(-1, 2, 0), -1);
        c.due("steps and house", x.drunk(0, -1, 501), -1);
        c.due("refused by -1", x.count(11), 6);
        c.due("refused by -2", x.count(12), 2);
    }

    private static void atFirst(Check c) {
        BeanStreet x = Check.withRow(0, 1);
        x.drunk(0, 1, 0);
        c.due("no step", x.drawn(1), 1);
        c.due("never there", x.drawn(0), 0);
        x.drunk(0, 1, 2);
        c.due("at first and at last", x.drawn(1), 2);
    }

    private static void drawnNone(Check c) {
        BeanStreet x = Check.withRow(0, 1);
        c.due("ahead of any", x.drawn(0), NONE);
        x.drunk(0, 2, 0);
        x.drunk(-1, 0, 0);
        c.due("refused ones are none", x.drawn(0), NONE);
        x.drunk(0, 1, 500);
        c.due("beyond", x.drawn(2), NONE);
        c.due("below", x.drawn(-1), NONE);
        c.due("far beyond", x.drawn(HIGH), NONE);
        c.due("far below", x.drawn(LOW), NONE);
        x.beans(1, 0);
        c.due("there is no such house now", x.drawn(1), NONE);
        c.due("this one is there", x.drawn(0), 250);
    }

    private static void imageKept(Check c) {
        BeanStreet x = new BeanStreet();
        c.due("0", x.image(0), 0);
        c.due("1", x.image(1), 0);
        c.due("0 anew", x.image(0), 0);
        c.due("2", x.image(2), -1);
        c.due("below", x.image(-1), -1);
        c.due("far beyond", x.image(HIGH), -1);
        c.due("far below", x.image(LOW), -1);
        c.due("refused", x.count(11), 4);
        x.beans(0, 1);
        x.image(0);
        x.beans(0, 2);
        x.back(0);
        c.due("the newer one", x.count(0), 1);
        x.back(1);
        c.due("the other one", x.count(0), 0);
    }

    private static void backRefused(Check c) {
        BeanStreet x = Check.withRow(0, 1);
        c.due("0 was not kept", x.back(0), -2);
        c.due("2", x.back(2), -1);
        c.due("below", x.back(-1), -1);
        c.due("far below", x.back(LOW), -1);
        x.image(1);
        c.due("nor is it by the other", x.back(0), -2);
        c.due("1 was", x.back(1), 0);
        c.due("two beans stay", x.count(0), 2);
        c.due("refused by -1", x.count(11), 3);
        c.due("refused by -2", x.count(12), 2);
    }

    private static void counts(Check c) {
        BeanStreet x = Check.lawful("lets", 0, 1, 1, 3, 4);
        x.terms(0, 1);
        x.terms(1, 99);
        x.wall(0, 1);
        x.wall(0, 2);
        x.clue(0, 1);
        x.swapIf(0, 4);
        x.swapIf(0, 1);
        x.swapIf(0, 2);
        x.feed(0, 0, 0, 0, 0);
        int[] due = {5, 1, 2, 0, 1, 1, 1, 2, 1, 3, 20, 0, 0, 0, 0, 0, 0, 1, 99};
        for (int what = 0; what < due.length; what++) {
            c.due("count " + what, x.count(what), due[what]);
        }
    }

    private static void refusals(Check c) {
        BeanStreet x = new BeanStreet();
        x.image(0);
        x.beans(9, 0);
        x.wall(0, 1);
        x.wall(0, 0);
        x.breach(0, 0);
        x.row();
        x.row();
        x.row();
        x.beans(0, 2);
        for (int i = 0; i < 16; i++) {
            x.swapIf(0, 1);
        }
        x.back(0);
        int[] due = {1, 1, 2, 4, 3};
        for (int i = 0; i < 5; i++) {
            c.due("refusals " + i, x.count(11 + i), due[i]);
        }
        x.code(-1);
        x.house(-1);
        x.feed(0, 0, 0, 0, 0);
        x.end(-1);
        x.step(9, 9, 9);
        x.far(9, 9, 9);
        x.round(9);
        x.fits(9);
        x.post(9, 9, 9, 9);
        x.drawn(9);
        c.due("NONE is no refusal", x.count(11), 1);
        c.due("nor of -2", x.count(12), 1);
    }

    private static void noSuchCount(Check c) {
        BeanStreet x = new BeanStreet();
        for (int what : new int[] {19, 20, HIGH, -1, -2, LOW}) {
            c.due("count " + what, x.count(what), NONE);
        }
        c.due("not refused", x.status(), 0);
    }

    private static void latestCall(Check c) {
        BeanStreet x = Check.withRow(0, 1, 2);
        c.due("row", x.status(), 0);
        int[] refused = {x.beans(0, -1), x.status(), x.terms(2, 0), x.status(), x.row(), x.status(), x.law(),
            x.status(), x.force(9), x.status(), x.wall(0, 0), x.status(), x.breach(0, 1), x.status(), x.swapIf(1, 0),
            x.status(), x.keep(9), x.status(), x.clue(0, -2), x.status(), x.drunk(-1, 0, 0), x.status(), x.image(2),
            x.status(), x.back(0), x.status()};
        for (int i = 0; i < refused.length; i += 2) {
            c.isTrue("refused " + i / 2, refused[i] < 0);
            c.due("status of " + i / 2, refused[i + 1], refused[i]);
        }
    }

    /** Calls a method that answers and may be told by status. */
    private interface Call {
        int answer(BeanStreet x);
    }

    private static void zeroIfNot(Check c) {
        c.due("ahead of any", new BeanStreet().status(), 0);
        Call[] calls = {x -> x.beans(0, 1), x -> x.terms(1, 3), x -> Check.row(x, 0, 1, 2), x -> Check.law(x, "lets"),
            x -> x.force(NONE), x -> x.wall(0, 5), x -> x.breach(0, 1), x -> x.swapIf(0, 1), x -> x.keep(0),
            x -> x.clue(0, 1), x -> x.drunk(0, 0, 1), x -> x.image(1), x -> x.back(0)};
        for (int i = 0; i < calls.length; i++) {
            BeanStreet x = Check.withRow(0, 1, 2);
            x.wall(0, 1);
            x.image(0);
            c.due("refused ahead of " + i, x.terms(9, 9), -1);
            calls[i].answer(x);
            c.due("status of " + i, x.status(), 0);
        }
        Call[] others = {x -> x.houses(), x -> x.code(0), x -> x.house(0), x -> x.feed(0, 0, 0, 0, 0), x -> x.end(0),
            x -> x.fault(), x -> x.step(0, NONE, 0), x -> x.far(0, 1, 0), x -> x.way(0, 1, 0), x -> x.reach(0, 0),
            x -> x.read(0, 0), x -> x.parted(0, 1), x -> (int) x.rows(0, 0, 1), x -> x.round(0), x -> x.sorts(0),
            x -> x.sorted(0), x -> x.forget(), x -> x.fits(0), x -> x.ask(0), x -> x.post(0, 0, 1, 1),
            x -> x.drawn(0), x -> x.count(0), x -> x.status()};
        for (int i = 0; i < others.length; i++) {
            BeanStreet x = Check.withRow(0, 1, 2);
            others[i].answer(x);
            c.due("status stays 0 behind " + i, x.status(), 0);
            x.wall(0, 0);
            others[i].answer(x);
            c.due("status stays -3 behind " + i, x.status(), -3);
            c.due("no refusal by " + i, x.count(11) + x.count(12) + x.count(14) + x.count(15), 0);
        }
    }

    private static void say1to14(Sentences s) {
        s.of("Promise 1:");
        s.says("No BEANS.", PromiseSentenceTests::newObject);
        s.of("Promise 2:");
        s.says("So many BEANS of a COLOUR: what there were", PromiseSentenceTests::whatThereWere);
        s.says("WALLS, CLUES are none then", PromiseSentenceTests::wallsAndCluesGo);
        s.says("SWAP-IFS beyond the PLACES go, later ones keep their order", PromiseSentenceTests::swapIfsGo);
        s.says("-1 (above 7 in all, too).", PromiseSentenceTests::refusedBeans);
        s.of("Promise 3:");
        s.says("How many HOUSES there are.", PromiseSentenceTests::howManyHouses);
        s.of("Promise 4:");
        s.says("NONE.", PromiseSentenceTests::codeNone);
        s.of("Promise 5:");
        s.says("NONE.", PromiseSentenceTests::houseNone);
        s.of("Promise 6:");
        s.says("what it was. -1.", PromiseSentenceTests::refusedTerms);
        s.of("Promise 7:");
        s.says("Twenty bytes come behind the TAPE, four of each number, the highest first",
                PromiseSentenceTests::highestFirst);
        s.says("NONE, if there would be more than 400.", PromiseSentenceTests::feed400);
        s.of("Promise 8:");
        s.says("The TAPE has its first n bytes alone: n.", PromiseSentenceTests::firstBytesAlone);
        s.says("NONE, if it has not so many, or n is below 0.", PromiseSentenceTests::endNone);
        s.of("Promise 9:");
        s.says("A ROW, the TAPE is empty then: its HOUSE.", PromiseSentenceTests::rowEmpties);
        s.says("-6 the TAPE is empty, has more than 7 bytes, one that is no COLOUR.",
                PromiseSentenceTests::rowRefused);
        s.of("Promise 10:");
        s.says("The TAPE, which is empty then, becomes a LAW: its number.", PromiseSentenceTests::lawNumber);
        s.says("-5 (ahead of reading it; the TAPE is empty then, too)", PromiseSentenceTests::lawNoRoom);
        s.says("-6 (blanks alone: FAULT at the end).", PromiseSentenceTests::lawBlanks);
        s.of("Promise 11:");
        s.says("FAULT of the latest law() that read a TEXT: its place", PromiseSentenceTests::latestFault);
        s.says("NONE without.", PromiseSentenceTests::faultNone);
        s.of("Promise 12:");
        s.says("A LAW is in FORCE (NONE: none): which was.", PromiseSentenceTests::whichWas);
        s.says("-2.", PromiseSentenceTests::noSuchLaw);
        s.of("Promise 13:");
        s.says("-2; -3 the same HOUSE, one is there; -5.", PromiseSentenceTests::refusedWall);
        s.of("Promise 14:");
        s.says("-2 no such HOUSE; -3 none is there.", PromiseSentenceTests::refusedBreach);
    }

    private static void say15to22(Sentences s) {
        s.of("Promise 15:");
        s.says("How many STEPS lead from a HOUSE (i NONE)", PromiseSentenceTests::howManySteps);
        s.says("NONE.", PromiseSentenceTests::stepNone);
        s.of("Promise 16:");
        s.says("in how many rows (1; 0)", PromiseSentenceTests::inNoRow);
        s.says("NONE (one does not come there, for 0, 2).", PromiseSentenceTests::farNone);
        s.of("Promise 17:");
        s.says("The i-th HOUSE of the WAY (0: from).", PromiseSentenceTests::wayFrom);
        s.says("NONE.", PromiseSentenceTests::wayNone);
        s.of("Promise 18:");
        s.says("how many are REACHED (what 0), how FAR the FARTHEST is (1), how many are so FAR (2), the lowest of"
                + " these (3)", PromiseSentenceTests::reachAll);
        s.says("NONE.", PromiseSentenceTests::reachNone);
        s.of("Promise 19:");
        s.says("NONE.", PromiseSentenceTests::readNone);
        s.of("Promise 20:");
        s.says("PARTED.", PromiseSentenceTests::partedAlready);
        s.says("NONE (the same HOUSE).", PromiseSentenceTests::partedNone);
        s.of("Promise 21:");
        s.says("to any (to NONE)", PromiseSentenceTests::rowsToAny);
        s.says("NONE.", PromiseSentenceTests::rowsNone);
        s.of("Promise 22:");
        s.says("whether there is one (i NONE: 1, 0)", PromiseSentenceTests::whetherRound);
        s.says("NONE (more than 14 HOUSES; there is none, for i).", PromiseSentenceTests::roundNone);
    }

    private static void say23to37(Sentences s) {
        s.of("Promise 23:");
        s.says("-1 (beyond the PLACES, too); -5.", PromiseSentenceTests::refusedSwapIf);
        s.of("Promise 24:");
        s.says("The MACHINE has its first n SWAP-IFS alone: how many it had.", PromiseSentenceTests::keepFirst);
        s.says("-1.", PromiseSentenceTests::refusedKeep);
        s.of("Promise 25:");
        s.says("the first that it does not (1)", PromiseSentenceTests::firstUnsorted);
        s.says("NEEDLESS ones, as bits (2)", PromiseSentenceTests::needlessBits);
        s.says("the fewest of its first that SORT as many (3)", PromiseSentenceTests::fewestFirst);
        s.says("NONE (all are SORTED, for 1).", PromiseSentenceTests::sortsNone);
        s.of("Promise 26:");
        s.says("NONE.", PromiseSentenceTests::sortedNone);
        s.of("Promise 27:");
        s.says("-1 (STEPS below NONE); -2; -5.", PromiseSentenceTests::refusedClue);
        s.of("Promise 28:");
        s.says("CLUES are none then: how many there were.", PromiseSentenceTests::forgetAll);
        s.of("Promise 29:");
        s.says("how many (i NONE), the i-th.", PromiseSentenceTests::howManyFit);
        s.says("NONE.", PromiseSentenceTests::fitsNone);
        s.of("Promise 30:");
        s.says("NONE (none FITS).", PromiseSentenceTests::askNone);
        s.of("Promise 31:");
        s.says("NONE (it can't be; the same HOUSE twice of from, of to; more than 40 HOUSES).",
                PromiseSentenceTests::postNone);
        s.of("Promise 32:");
        s.says("n 0 .. 500 STEPS, kept as the latest", PromiseSentenceTests::drunkSteps);
        s.says("-1; -2 (behind -1).", PromiseSentenceTests::refusedDrunk);
        s.of("Promise 33:");
        s.says("How often the latest DRUNK was at a HOUSE (at first, too).", PromiseSentenceTests::atFirst);
        s.says("NONE.", PromiseSentenceTests::drawnNone);
        s.of("Promise 34:");
        s.says("IMAGE k is kept: 0; -1.", PromiseSentenceTests::imageKept);
        s.of("Promise 35:");
        s.says("-1; -2 it was not kept.", PromiseSentenceTests::backRefused);
        s.of("Promise 36:");
        s.says("0 BEANS, 1 .. 5 of COLOURS 0 .. 4, 6 LAWS, 7 WALLS, 8 CLUES, 9 SWAP-IFS, 10 bytes of the TAPE",
                PromiseSentenceTests::counts);
        s.says("how many calls were REFUSED by -1, -2, -3, -5, -6 (IMAGES do not keep that)",
                PromiseSentenceTests::refusals);
        s.says("NONE for others.", PromiseSentenceTests::noSuchCount);
        s.of("Promise 37:");
        s.says("What the latest call of beans, terms, row, law, force, wall, breach, swapIf, keep, clue, drunk,"
                + " image, back was REFUSED by", PromiseSentenceTests::latestCall);
        s.says("0 if it was not, or ahead of any.", PromiseSentenceTests::zeroIfNot);
    }

    public static void main(String[] args) throws IOException {
        Sentences s = new Sentences();
        say1to14(s);
        say15to22(s);
        say23to37(s);
        s.finish();
    }
}
