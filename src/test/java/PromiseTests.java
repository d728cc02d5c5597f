/** Each promise by answers worked out by hand: ordinary ones, the edges the document names, wrong inputs. */
public final class PromiseTests {
    private static final int NONE = BeanStreet.NONE;
    private static final int LOW = Integer.MIN_VALUE;
    private static final int HIGH = Integer.MAX_VALUE;
    private static final Check C = new Check();

    private PromiseTests() {
    }

    private static void p1NewObject() {
        BeanStreet x = new BeanStreet();
        for (int what = 0; what <= 15; what++) {
            C.due("1 count(" + what + ")", x.count(what), 0);
        }
        C.due("1 force", x.count(16), NONE);
        C.due("1 turn", x.count(17), 0);
        C.due("1 day", x.count(18), 0);
        C.due("1 houses", x.houses(), 1);
        C.due("1 status", x.status(), 0);
        C.due("1 fault", x.fault(), NONE);
        C.due("1 step", x.step(0, NONE, 0), 0);
        C.due("1 parted", x.parted(0, 0), NONE);
        C.due("1 read", x.read(0, 0), 0);
        C.due("1 inversions", x.read(0, 1), 0);
        x.terms(0, 1);
        C.due("1 turn of none", x.step(0, NONE, 0), 0);
    }

    private static void p2Beans() {
        BeanStreet x = new BeanStreet();
        C.due("2 first", x.beans(4, 7), 0);
        C.due("2 again", x.beans(4, 3), 7);
        C.due("2 above 7", x.beans(0, 5), -1);
        C.due("2 unchanged", x.count(1), 0);
        C.due("2 to 7", x.beans(0, 4), 0);
        C.due("2 below", x.beans(0, -1), -1);
        C.due("2 high", x.beans(0, HIGH), -1);
        C.due("2 low", x.beans(0, LOW), -1);
        C.due("2 colour", x.beans(-1, 0), -1);
        C.due("2 colour 5", x.beans(5, 0), -1);
        C.due("2 status", x.status(), -1);
        C.due("2 in all", x.count(0), 7);
        C.due("2 houses", x.houses(), 35);

        x = Check.withRow(0, 1, 2, 3);
        x.wall(0, 1);
        x.clue(0, 1);
        x.swapIf(0, 3);
        x.swapIf(1, 2);
        x.swapIf(2, 3);
        x.swapIf(0, 1);
        C.due("2 the same number", x.beans(0, 1), 1);
        C.due("2 walls go even so", x.count(7), 0);
        C.due("2 clues go even so", x.count(8), 0);
        C.due("2 swap-ifs stay", x.count(9), 4);
        x.wall(0, 1);
        x.clue(0, 1);
        C.due("2 refused", x.beans(0, 9), -1);
        C.due("2 walls stay", x.count(7), 1);
        C.due("2 clues stay", x.count(8), 1);
        C.due("2 one place less", x.beans(3, 0), 1);
        C.due("2 swap-ifs beyond go", x.count(9), 2);
        // What is left is (1,2), (0,1): 210 becomes 201, 021.
        C.due("2 and keep their order", x.sorted(5), 1);
    }

    private static void p3Houses() {
        BeanStreet x = new BeanStreet();
        x.beans(0, 2);
        C.due("3 alike", x.houses(), 1);
        x.beans(1, 2);
        C.due("3 two and two", x.houses(), 6);
        x.beans(2, 1);
        x.beans(3, 1);
        x.beans(4, 1);
        C.due("3 most", x.houses(), 1260);
        x.beans(0, 0);
        C.due("3 five", x.houses(), 60);
    }

    private static void p4Code() {
        BeanStreet x = Check.withRow(4, 0, 2);
        C.due("4 024", x.code(0), 14);
        C.due("4 042", x.code(1), 22);
        C.due("4 420", x.code(5), 110);
        C.due("4 beyond", x.code(6), NONE);
        C.due("4 below", x.code(-1), NONE);
        C.due("4 low", x.code(LOW), NONE);
        x = Check.withRow(4, 4, 4, 4, 4, 4, 4);
        C.due("4 highest", x.code(0), 78124);
        C.due("4 status", x.status(), 0);
    }

    private static void p5House() {
        BeanStreet x = Check.withRow(4, 0, 2);
        C.due("5 024", x.house(14), 0);
        C.due("5 420", x.house(110), 5);
        C.due("5 other beans", x.house(15), NONE);
        C.due("5 a figure more", x.house(125 + 14), NONE);
        C.due("5 below", x.house(-1), NONE);
        C.due("5 high", x.house(HIGH), NONE);
        C.due("5 low", x.house(LOW), NONE);
        x = Check.withRow(0, 0);
        C.due("5 nothing but 0", x.house(0), 0);
        x = Check.withRow(0, 1, 2, 3, 4, 0, 1);
        for (int house = 0; house < x.houses(); house++) {
            C.due("5 there and back " + house, x.house(x.code(house)), house);
        }
    }

    private static void p6Terms() {
        BeanStreet x = new BeanStreet();
        C.due("6 turn", x.terms(0, 1), 0);
        C.due("6 turn back", x.terms(0, 0), 1);
        C.due("6 turn 2", x.terms(0, 2), -1);
        C.due("6 day", x.terms(1, 99), 0);
        C.due("6 day again", x.terms(1, 7), 99);
        C.due("6 day 100", x.terms(1, 100), -1);
        C.due("6 below", x.terms(1, -1), -1);
        C.due("6 no such", x.terms(2, 0), -1);
        C.due("6 no such below", x.terms(-1, 0), -1);
        C.due("6 refused", x.count(11), 5);
        C.due("6 day stays", x.count(18), 7);
        C.due("6 turn stays", x.count(17), 0);
    }

    private static void p7Feed() {
        BeanStreet x = new BeanStreet();
        for (int i = 1; i <= 20; i++) {
            C.due("7 feed " + i, x.feed(-1, 1, 2, 3, 4), 20 * i);
        }
        C.due("7 no room", x.feed(0, 0, 0, 0, 0), NONE);
        C.due("7 nothing came", x.count(10), 400);
        C.due("7 not refused", x.status(), 0);
        x.end(381);
        C.due("7 401", x.feed(0, 0, 0, 0, 0), NONE);
        x.end(380);
        C.due("7 400", x.feed(0, 0, 0, 0, 0), 400);
        x.end(0);
        x.feed(0x00010203, 0x04000000, 0, 0, 0);
        x.end(5);
        C.due("7 highest first", x.row(), 0);
        C.due("7 five colours", x.houses(), 120);
        x.feed(0x80000000, 0, 0, 0, 0);
        x.end(1);
        C.due("7 a byte is not below 0", x.row(), -6);
    }

    private static void p8End() {
        BeanStreet x = new BeanStreet();
        C.due("8 empty", x.end(0), 0);
        C.due("8 more than it has", x.end(1), NONE);
        x.feed(0, 0, 0, 0, 0);
        C.due("8 all", x.end(20), 20);
        C.due("8 below", x.end(-1), NONE);
        C.due("8 low", x.end(LOW), NONE);
        C.due("8 some", x.end(3), 3);
        C.due("8 cut off", x.end(4), NONE);
        C.due("8 bytes", x.count(10), 3);
        C.due("8 not refused", x.count(11), 0);
    }

    private static void p9Row() {
        BeanStreet x = new BeanStreet();
        C.due("9 empty", x.row(), -6);
        C.due("9 its house", Check.row(x, 2, 1, 0), 5);
        C.due("9 tape empty", x.count(10), 0);
        x.wall(0, 1);
        x.clue(0, 1);
        x.swapIf(0, 1);
        x.swapIf(1, 2);
        C.due("9 no colour", Check.row(x, 0, 5), -6);
        C.due("9 tape empty then, too", x.count(10), 0);
        C.due("9 eight", Check.row(x, 0, 0, 0, 0, 0, 0, 0, 0), -6);
        C.due("9 status", x.status(), -6);
        C.due("9 nothing changed", x.houses(), 6);
        C.due("9 walls stay", x.count(7), 1);
        C.due("9 seven", Check.row(x, 4, 4, 3, 3, 2, 1, 0), 1259);
        C.due("9 walls go", x.count(7), 0);
        C.due("9 clues go", x.count(8), 0);
        C.due("9 swap-ifs stay", x.count(9), 2);
        C.due("9 two places", Check.row(x, 1, 0), 1);
        C.due("9 swap-ifs beyond go", x.count(9), 1);
        C.due("9 status 0", x.status(), 0);
        C.due("9 refused", x.count(15), 3);
    }

    private static void fault(String text, int place) {
        BeanStreet x = new BeanStreet();
        C.due("10 law(" + text + ")", Check.law(x, text), place == NONE ? 0 : -6);
        C.due("11 fault(" + text + ")", x.fault(), place);
        C.due("10 laws(" + text + ")", x.count(6), place == NONE ? 1 : 0);
        C.due("10 tape(" + text + ")", x.count(10), 0);
    }

    private static void p10p11LawFault() {
        fault("lets", NONE);
        fault("  bars  ", NONE);
        fault("takes5if1<2and3<4;lets", NONE);
        fault("", 0);
        fault("   ", 3);
        fault("takes  ", 7);
        fault("let", 0);
        fault("letsx", 0);
        fault("Lets", 0);
        fault("lets;", 5);
        fault("lets;;lets", 5);
        fault(";lets", 0);
        fault("lets if", 7);
        fault("lets if 1", 9);
        fault("lets if 1 <", 11);
        fault("lets if 1<2 or", 14);
        fault("lets if 1<2<3", 11);
        fault("lets if (1<2", 12);
        fault("lets if (1<2]", 12);
        fault("lets if (1)<2", 10);
        fault("lets if [1<2]", 10);
        fault("lets if [1]<2", NONE);
        fault("lets if ([1]<2)", NONE);
        fault("lets if not not (not 1=1)", NONE);
        fault("lets if not", 11);
        fault("takes (1)", 6);
        fault("takes -1", 6);
        fault("takes 1-", 8);
        fault("takes 1 2", 8);
        fault("takes 1;if 1=1", 8);
        fault("takes if", 6);
        fault("takes 1000", NONE);
        fault("takes 0000001000", NONE);
        fault("takes 1001", 6);
        fault("takes 99999999999999999999", 6);
        fault("takes left+right*one/other-apart+first+beans+day", NONE);
        fault("takes places", 6);
        fault("takes\t1", 5);
        fault("takes 1" + (char) 233, 7);
        fault("takes 1" + (char) 0, 7);
        fault("lets" + ";lets".repeat(11), NONE);
        fault("lets" + ";lets".repeat(12), 60);
        fault("lets" + ";lets".repeat(11) + ";  bars", 62);
        fault("lets" + ";lets".repeat(11) + ";", 60);
        fault("takes 1" + "+1".repeat(49), NONE);
        fault("takes 1" + "+1".repeat(50), 106);
        fault("takes 1" + "+1".repeat(49) + ";bars if day<1", 114);
        fault("takes [1]" + "+[1]".repeat(49), NONE);
        fault("takes " + "[".repeat(8) + "1" + "]".repeat(8), NONE);
        fault("takes " + "[".repeat(9) + "1" + "]".repeat(9), 14);
        fault("takes " + "[[1]]+".repeat(9) + "1", NONE);
        fault("lets if ((((" + "[[[[1]]]]=1))))", NONE);
        fault("lets if ((((" + "[[[[[1]]]]]=1))))", 16);
        fault("lets if " + "(".repeat(9) + "1=1" + ")".repeat(9), 16);
        fault("lets if " + "not ".repeat(96) + " 1=1", NONE);

        BeanStreet x = new BeanStreet();
        C.due("11 without", x.fault(), NONE);
        Check.law(x, "lets 1");
        C.due("11 5", x.fault(), 5);
        for (int i = 0; i < 6; i++) {
            C.due("10 number", Check.law(x, "lets"), i);
        }
        C.due("11 none again", x.fault(), NONE);
        C.due("10 no room", Check.law(x, "lets"), -5);
        C.due("10 empty then, too", x.count(10), 0);
        C.due("10 no room, ahead of reading", Check.law(x, "what"), -5);
        C.due("11 not read", x.fault(), NONE);
        C.due("10 status", x.status(), -5);
        C.due("10 refused", x.count(14), 2);
        C.due("10 refused by -6", x.count(15), 1);
        C.due("10 none is in force", x.count(16), NONE);
    }

    private static BeanStreet lawful(String law, int... colours) {
        BeanStreet x = Check.withRow(colours);
        C.due("12 law(" + law + ")", Check.law(x, law), 0);
        C.due("12 force(0)", x.force(0), NONE);
        return x;
    }

    /** What the first step from the lower of two houses takes; 0 if there is none. */
    private static void takes(String law, int want) {
        BeanStreet x = lawful(law, 1, 3);
        x.terms(1, 9);
        int got = x.step(0, NONE, 0) == 0 ? 0 : x.step(0, 0, 1);
        C.due("12 takes by " + law, got, want);
    }

    private static void p12Force() {
        takes("takes 7", 7);
        takes("takes 100", 99);
        takes("takes 1-2", 1);
        takes("takes 7;takes 8 if 1=2", 7);
        takes("takes 7;takes 8 if 1<2", 8);
        takes("takes 7;takes 8/0", 7);
        takes("takes 7;takes 8 if 1/0=1", 7);
        takes("takes 7;takes 8 if 1=1 or 1/0=1", 8);
        takes("takes 7;takes 8 if 1/0=1 or 1=1", 7);
        takes("takes 7;takes 8 if 1=2 and 1/0=1 or 1=1", 8);
        takes("takes 7;takes 8 if not 1/0=1", 7);
        takes("takes 7;takes 8 if not 1=2", 8);
        takes("takes 7;takes 8 if not (1=1 and 2=3)", 8);
        takes("takes 7;takes 8 if 1=2 and 1=1 or 2=2", 8);
        takes("takes 7;takes 8 if 1=2 and (1=1 or 2=2)", 7);
        takes("takes 7;takes 8 if 1000*1000*1000>0", 8);
        takes("takes 7;takes 8 if 1000*1000*1000+1>0", 7);
        takes("takes 7;takes 8 if 0-1000*1000*1000<0", 8);
        takes("takes 7;takes 8 if 0-1000*1000*1000-1<0", 7);
        takes("takes 7;takes 8 if 1000*1000*1000*2/2>0", 7);
        takes("takes 10-2-3", 5);
        takes("takes 2+3*4", 14);
        takes("takes [2+3]*4", 20);
        takes("takes 40/4/2", 5);
        takes("takes 10+[0-7]/2", 7);
        takes("takes 10*beans+one+left", 21);
        takes("takes 10*other+right", 31);
        takes("takes 10*day+apart", 91);
        takes("takes 10*first+5", 15);
        takes("lets", 1);
        takes("bars", 0);
        takes("lets;bars if 1=2", 1);
        takes("lets if 1=2", 0);
        takes("lets if 1=2;lets if 1=1", 1);
        takes("lets if 1/0=1", 0);
        takes("bars if 1/0=1", 1);
        takes("bars if 1=1;bars if 1=2;lets", 0);

        BeanStreet x = lawful("takes 2", 0, 1, 2);
        C.due("12 no lets: side by side", x.step(0, NONE, 0), 2);
        Check.law(x, "lets if apart=2");
        C.due("12 which was", x.force(1), 0);
        C.due("12 lets: those alone", x.step(0, NONE, 0), 1);
        C.due("12 102 to 201", x.step(2, 0, 0), 4);
        C.due("12 there is no such law", x.force(2), -2);
        C.due("12 nor that", x.force(-2), -2);
        C.due("12 low", x.force(LOW), -2);
        C.due("12 status", x.status(), -2);
        C.due("12 stays", x.count(16), 1);
        C.due("12 none", x.force(NONE), 1);
        C.due("12 steps without", x.step(0, NONE, 0), 2);
        C.due("12 was none", x.force(0), NONE);
        C.due("12 status 0", x.status(), 0);
        x.beans(3, 1);
        C.due("12 stays with other beans", x.count(16), 0);
    }

    private static void p13p14WallBreach() {
        BeanStreet x = Check.withRow(0, 1, 2, 3);
        C.due("13 first", x.wall(0, 1), 1);
        C.due("13 no such house", x.wall(0, 24), -2);
        C.due("13 nor that", x.wall(-1, -1), -2);
        C.due("13 the same", x.wall(3, 3), -3);
        C.due("13 is there", x.wall(0, 1), -3);
        C.due("13 is there, turned", x.wall(1, 0), -3);
        for (int i = 2; i <= 8; i++) {
            C.due("13 wall " + i, x.wall(0, i), i);
        }
        C.due("13 no room", x.wall(0, 9), -5);
        C.due("13 -3 ahead of -5", x.wall(2, 0), -3);
        C.due("13 -2 ahead of -3", x.wall(24, 24), -2);
        C.due("13 status", x.status(), -2);
        C.due("14 no such house", x.breach(0, 24), -2);
        C.due("14 none there", x.breach(1, 2), -3);
        C.due("14 the same", x.breach(1, 1), -3);
        C.due("14 turned", x.breach(3, 0), 7);
        C.due("14 gone", x.breach(0, 3), -3);
        C.due("14 the others stay", x.breach(8, 0), 6);
        C.due("14 of the middle", x.breach(0, 5), 5);
        C.due("13 again", x.wall(0, 9), 6);
        C.due("13 refused by -2", x.count(12), 4);
        C.due("13 refused by -3", x.count(13), 7);
        C.due("13 refused by -5", x.count(14), 1);
        C.due("13 shut from all three sides", x.step(0, NONE, 0), 0);
        C.due("13 from there as well", x.far(1, 0, 0), NONE);
        x.breach(2, 0);
        C.due("14 open again", x.step(0, 0, 0), 2);
    }

    private static void p15Step() {
        BeanStreet x = Check.withRow(0, 0, 1, 2);
        // 0012: (1,2) to 0102, (2,3) to 0021; (0,1) are alike.
        C.due("15 many", x.step(0, NONE, 0), 2);
        C.due("15 first", x.step(0, 0, 0), x.house(27));
        C.due("15 second", x.step(0, 1, 0), x.house(11));
        C.due("15 beyond", x.step(0, 2, 0), NONE);
        C.due("15 below", x.step(0, -2, 0), NONE);
        C.due("15 low", x.step(0, LOW, 0), NONE);
        C.due("15 no such what", x.step(0, 0, 2), NONE);
        C.due("15 no such house", x.step(12, NONE, 0), NONE);
        C.due("15 below all", x.step(-1, NONE, 0), NONE);
        x.terms(0, 1);
        C.due("15 a turn more", x.step(0, NONE, 0), 3);
        C.due("15 0120", x.step(0, 2, 0), x.house(35));
        C.due("15 takes 1", x.step(0, 2, 1), 1);
        Check.law(x, "lets;takes 10*left+right");
        x.force(0);
        // (0,2), (0,3), (1,2), (1,3), (2,3), the turn.
        int[] takes = {2, 3, 12, 13, 23, 1};
        C.due("15 all", x.step(0, NONE, 0), 6);
        for (int i = 0; i < 6; i++) {
            C.due("15 order " + i, x.step(0, i, 1), takes[i]);
        }
        Check.law(x, "bars");
        x.force(1);
        C.due("15 no law bars a turn", x.step(0, NONE, 0), 1);
        x.wall(0, x.house(35));
        C.due("15 a wall does", x.step(0, NONE, 0), 0);

        x = Check.withRow(0, 1);
        x.terms(0, 1);
        C.due("15 both lead there", x.step(0, NONE, 0), 2);
        C.due("15 so", x.step(0, 0, 0), 1);
        C.due("15 and so", x.step(0, 1, 0), 1);
        x.wall(1, 0);
        C.due("15 neither through a wall", x.step(0, NONE, 0), 0);
        x = Check.withRow(3, 3, 3);
        x.terms(0, 1);
        C.due("15 a turn to itself is none", x.step(0, NONE, 0), 0);
    }

    private static void p16Far() {
        BeanStreet x = Check.withRow(0, 1, 2, 3);
        // Rows of six exchanges of neighbours that turn 0123 about: sixteen.
        C.due("16 far", x.far(0, 23, 0), 6);
        C.due("16 in how many", x.far(0, 23, 1), 16);
        C.due("16 least", x.far(0, 23, 2), 6);
        C.due("16 itself", x.far(7, 7, 0), 0);
        C.due("16 itself in one", x.far(7, 7, 1), 1);
        C.due("16 itself least", x.far(7, 7, 2), 0);
        C.due("16 no such what", x.far(0, 0, 3), NONE);
        C.due("16 nor that", x.far(0, 0, -1), NONE);
        C.due("16 no such house", x.far(0, 24, 1), NONE);
        C.due("16 below", x.far(-1, 0, 1), NONE);
        Check.law(x, "lets;takes 50 if apart=3;takes 3*apart if apart<3");
        x.force(0);
        // 3120: one exchange of the ends takes 50; one of neighbours, one past one and the first again 12.
        C.due("16 one exchange", x.far(0, x.house(385 + 25), 0), 1);
        C.due("16 dear", x.step(0, 2, 1), 50);
        C.due("16 cheaper about", x.far(0, x.house(385 + 25), 2), 12);
        Check.law(x, "bars");
        x.force(1);
        C.due("16 not there", x.far(0, 1, 0), NONE);
        C.due("16 in none", x.far(0, 1, 1), 0);
        C.due("16 no least", x.far(0, 1, 2), NONE);
        x.force(NONE);
        Check.law(x, "takes 99");
        x.force(2);
        C.due("16 dear steps", x.far(0, 23, 2), 6 * 99);
        Check.law(x, "lets;takes 99;takes 60 if apart=1 and left=1");
        x.force(3);
        // 3210 by the ends and the middle.
        C.due("16 dear and less dear", x.far(0, 23, 2), 159);
        x = lawful("takes 99", 4, 3, 2, 1, 1, 0, 0);
        C.due("16 nineteen dear steps", x.far(0, 1259, 2), 19 * 99);
        x = lawful("lets if one<other and apart=1", 4, 3, 2, 1, 1, 0, 0);
        x.terms(0, 1);
        C.due("16 far by turns", x.far(128, 0, 0), 26);
        C.due("16 a thousand million at most", x.far(128, 0, 1), 1000000000);
        x = Check.withRow(0, 1);
        x.terms(0, 1);
        C.due("16 each step counts", x.far(0, 1, 1), 2);
        Check.law(x, "takes 5");
        x.force(0);
        C.due("16 the turn is less", x.far(0, 1, 2), 1);
    }

    private static void p17Way() {
        BeanStreet x = Check.withRow(0, 1, 2);
        int[] way = {5, 3, 2, 0};
        for (int i = 0; i < 4; i++) {
            C.due("17 way " + i, x.way(5, 0, i), way[i]);
        }
        C.due("17 beyond", x.way(5, 0, 4), NONE);
        C.due("17 below", x.way(5, 0, -1), NONE);
        C.due("17 itself", x.way(4, 4, 0), 4);
        C.due("17 no more of itself", x.way(4, 4, 1), NONE);
        C.due("17 no such house", x.way(0, 6, 0), NONE);
        C.due("17 below all", x.way(-1, 0, 0), NONE);
        x.wall(3, 5);
        C.due("17 about", x.way(5, 0, 1), 4);
        x.wall(4, 5);
        C.due("17 shut in", x.way(5, 0, 0), NONE);
        // The lowest next house need not lead on: all that do are looked at.
        x = Check.withRow(0, 1, 2, 3);
        // 0132, 0312, 0321, 3021, 3201; 3012 would lead on, too, but stands behind 0321.
        int[] houses = {1, 4, 5, 19, 22};
        for (int i = 0; i < 5; i++) {
            C.due("17 0132 to 3201, " + i, x.way(1, 22, i), houses[i]);
        }
    }

    private static void p18Reach() {
        BeanStreet x = Check.withRow(0, 0, 1, 1);
        // 0011 0101 0110 1001 1010 1100; from 0011 the others are 1, 2, 2, 3, 4 off.
        C.due("18 all", x.reach(0, 0), 6);
        C.due("18 farthest", x.reach(0, 1), 4);
        C.due("18 one", x.reach(0, 2), 1);
        C.due("18 which", x.reach(0, 3), 5);
        C.due("18 from 0101", x.reach(1, 1), 3);
        C.due("18 from 0110", x.reach(2, 1), 2);
        C.due("18 are so far", x.reach(2, 2), 3);
        C.due("18 lowest", x.reach(2, 3), 0);
        C.due("18 no such what", x.reach(0, 4), NONE);
        C.due("18 nor that", x.reach(0, -1), NONE);
        C.due("18 no such house", x.reach(6, 0), NONE);
        x.wall(0, 1);
        C.due("18 alone", x.reach(0, 0), 1);
        C.due("18 itself", x.reach(0, 3), 0);
        C.due("18 no distance", x.reach(0, 1), 0);
        C.due("18 the rest", x.reach(1, 0), 5);
    }

    private static void p19Read() {
        BeanStreet x = Check.withRow(0, 0, 1, 2);
        C.due("19 2100", x.read(0, 0), 11);
        C.due("19 back", x.read(11, 0), 0);
        C.due("19 inversions", x.read(11, 1), 5);
        C.due("19 none", x.read(0, 1), 0);
        C.due("19 0021", x.read(1, 1), 1);
        C.due("19 no such what", x.read(0, 2), NONE);
        C.due("19 nor that", x.read(0, -1), NONE);
        C.due("19 no such house", x.read(12, 0), NONE);
        C.due("19 below", x.read(-1, 1), NONE);
    }

    private static void p20Parted() {
        BeanStreet x = Check.withRow(0, 0, 1, 1);
        C.due("20 one neighbour", x.parted(0, 5), 1);
        C.due("20 in the middle", x.parted(1, 4), 2);
        C.due("20 the same", x.parted(2, 2), NONE);
        C.due("20 no such house", x.parted(0, 6), NONE);
        C.due("20 below", x.parted(-1, 0), NONE);
        x.wall(1, 2);
        C.due("20 one less", x.parted(1, 4), 1);
        x.wall(1, 3);
        C.due("20 parted", x.parted(1, 4), 0);
        x = Check.withRow(0, 1);
        x.terms(0, 1);
        C.due("20 one wall for two steps", x.parted(0, 1), 1);
        x = lawful("lets if one<other", 0, 1, 2);
        C.due("20 one direction", x.parted(0, 5), 3);
        C.due("20 not the other", x.parted(5, 0), 0);
        x = lawful("lets", 0, 1, 2, 3, 4, 0, 1);
        C.due("20 as many as steps", x.parted(0, 1259), 19);
        p20Crossings();
    }

    /** Ways found first that stand in the way of others: they must be led about anew. */
    private static void p20Crossings() {
        C.due("20 given back", lawful("lets if one>other;bars if apart=other", 2, 3, 0, 0).parted(5, 0), 3);
        C.due("20 by the last house", lawful("lets if apart>one", 1, 0, 1, 1, 3).parted(9, 17), 5);
        C.due("20 given back once", lawful("lets if other<apart", 2, 1, 1, 3, 3).parted(10, 0), 2);
        C.due("20 taken anew", lawful("lets if one=apart", 2, 2, 1, 0, 0).parted(28, 3), 3);
        BeanStreet x = lawful("lets if first=right", 0, 1, 0, 3, 1);
        x.terms(0, 1);
        C.due("20 taken anew, with turns", x.parted(26, 24), 3);
        x = lawful("lets if one=2", 3, 3, 2, 0, 0);
        x.terms(0, 1);
        C.due("20 given back, then taken further", x.parted(6, 27), 2);
    }

    private static void p21Rows() {
        BeanStreet x = Check.withRow(0, 1, 2);
        C.due("21 none but itself", x.rows(0, 0, 0), 1);
        C.due("21 not another", x.rows(0, 1, 0), 0);
        C.due("21 around either way", x.rows(0, 0, 6), 22);
        C.due("21 any", x.rows(0, NONE, 12), 4096);
        C.due("21 thirteen", x.rows(0, NONE, 13), NONE);
        C.due("21 below", x.rows(0, 0, -1), NONE);
        C.due("21 no such house", x.rows(0, 6, 1), NONE);
        C.due("21 nor that", x.rows(0, -2, 1), NONE);
        C.due("21 none", x.rows(NONE, 0, 1), NONE);
        x = lawful("lets", 0, 1, 2, 3, 4, 0, 1);
        x.terms(0, 1);
        // Nineteen exchanges of beans that differ, and a turn, from every house.
        C.due("21 more than an int", x.rows(3, NONE, 12), 4096000000000000L);
    }

    private static void p22Round() {
        BeanStreet x = new BeanStreet();
        C.due("22 one house", x.round(NONE), 0);
        C.due("22 none of it", x.round(0), NONE);
        Check.row(x, 0, 1);
        C.due("22 two: there and home", x.round(NONE), 1);
        C.due("22 first", x.round(0), 0);
        C.due("22 second", x.round(1), 1);
        C.due("22 no more", x.round(2), NONE);
        C.due("22 below", x.round(-2), NONE);
        Check.row(x, 0, 0, 1);
        C.due("22 a row of three", x.round(NONE), 0);
        C.due("22 none of that", x.round(0), NONE);
        x.terms(0, 1);
        C.due("22 by turns", x.round(NONE), 1);
        C.due("22 first of the rows", x.round(1), 1);
        Check.row(x, 0, 0, 1, 2);
        C.due("22 twelve", x.round(0), 0);
        Check.row(x, 0, 0, 0, 0, 1, 1);
        C.due("22 fifteen", x.round(NONE), NONE);
        C.due("22 nor one of fifteen", x.round(0), NONE);
        x = lawful("lets if one<other", 0, 1, 2);
        C.due("22 no step home", x.round(NONE), 0);
        x.terms(0, 1);
        // 012, 021, 120, 210, 102, 201: from 201 alone a step leads home.
        int[] round = {0, 1, 3, 5, 2, 4};
        C.due("22 home by a turn", x.round(NONE), 1);
        for (int i = 0; i < 6; i++) {
            C.due("22 house " + i, x.round(i), round[i]);
        }
    }

    private static void p23p24Machine() {
        BeanStreet x = Check.withRow(0, 1, 2);
        C.due("23 first", x.swapIf(0, 2), 1);
        C.due("23 turned", x.swapIf(2, 0), -1);
        C.due("23 the same", x.swapIf(1, 1), -1);
        C.due("23 below", x.swapIf(-1, 1), -1);
        C.due("23 beyond", x.swapIf(0, 3), -1);
        C.due("23 high", x.swapIf(0, HIGH), -1);
        C.due("23 status", x.status(), -1);
        for (int i = 2; i <= 12; i++) {
            C.due("23 swap-if " + i, x.swapIf(0, 1), i);
        }
        C.due("23 no room", x.swapIf(0, 1), -5);
        C.due("23 -1 ahead of -5", x.swapIf(1, 0), -1);
        C.due("24 more than it has", x.keep(13), -1);
        C.due("24 below", x.keep(-1), -1);
        C.due("24 all", x.keep(12), 12);
        C.due("24 one", x.keep(1), 12);
        C.due("24 the first", x.sorted(5), 0);
        C.due("24 it had", x.keep(2), -1);
        C.due("24 none", x.keep(0), 1);
        C.due("24 count", x.count(9), 0);
        C.due("24 status", x.status(), 0);
        C.due("23 without places", new BeanStreet().swapIf(0, 1), -1);
    }

    private static void p25p26Sorts() {
        BeanStreet x = Check.withRow(0, 0, 1);
        C.due("25 none: home alone", x.sorts(0), 1);
        C.due("25 first", x.sorts(1), 1);
        C.due("25 fewest", x.sorts(3), 0);
        x.swapIf(0, 1);
        x.swapIf(0, 1);
        x.swapIf(1, 2);
        x.swapIf(0, 1);
        C.due("25 all", x.sorts(0), 3);
        C.due("25 none is left", x.sorts(1), NONE);
        // The one of 1, 2 is needed; of the three others each can go alone.
        C.due("25 needless", x.sorts(2), 1 + 2 + 8);
        C.due("25 fewest of the first", x.sorts(3), 3);
        C.due("25 no such what", x.sorts(4), NONE);
        C.due("25 nor that", x.sorts(-1), NONE);
        x.keep(2);
        C.due("26 100 to 010", x.sorted(2), 1);
        C.due("26 010 to 010: greater alone changes", x.sorted(1), 1);
        C.due("26 home", x.sorted(0), 0);
        C.due("26 no such house", x.sorted(3), NONE);
        C.due("26 below", x.sorted(-1), NONE);
    }

    private static void p27p28p29Clues() {
        BeanStreet x = Check.withRow(0, 1, 2);
        C.due("29 all fit", x.fits(NONE), 6);
        C.due("27 first", x.clue(0, 1), 1);
        C.due("29 two", x.fits(NONE), 2);
        C.due("29 lower", x.fits(0), 1);
        C.due("29 higher", x.fits(1), 2);
        C.due("29 beyond", x.fits(2), NONE);
        C.due("29 below", x.fits(-2), NONE);
        x.wall(0, 1);
        C.due("29 by the walls that stand", x.fits(NONE), 1);
        C.due("29 the other", x.fits(0), 2);
        x.breach(0, 1);
        C.due("27 below NONE", x.clue(9, -2), -1);
        C.due("27 no such house", x.clue(6, 1), -2);
        C.due("27 at odds", x.clue(0, 2), 2);
        C.due("29 none", x.fits(NONE), 0);
        C.due("29 none at all", x.fits(0), NONE);
        for (int i = 3; i <= 6; i++) {
            C.due("27 clue " + i, x.clue(0, HIGH), i);
        }
        C.due("27 no room", x.clue(0, 1), -5);
        C.due("27 -2 ahead of -5", x.clue(-1, 1), -2);
        C.due("27 status", x.status(), -2);
        C.due("28 how many", x.forget(), 6);
        C.due("28 none", x.forget(), 0);
        C.due("28 no status", x.status(), -2);
        C.due("28 all fit again", x.fits(NONE), 6);
        x.wall(0, 1);
        x.wall(0, 2);
        x.clue(0, NONE);
        C.due("29 not to be come to", x.fits(NONE), 5);
        C.due("29 the lowest of these", x.fits(0), 1);
    }

    private static void p30Ask() {
        BeanStreet x = Check.withRow(0, 1, 2);
        // In a ring of six every house leaves two at worst.
        C.due("30 best", x.ask(0), 0);
        C.due("30 left", x.ask(1), 2);
        C.due("30 no such what", x.ask(2), NONE);
        C.due("30 nor that", x.ask(-1), NONE);
        x.clue(0, 2);
        // 120 and 201 are alike far from 012 and 210 alone.
        C.due("30 best of those", x.ask(0), 1);
        C.due("30 one is left", x.ask(1), 1);
        x.clue(0, 1);
        C.due("30 none fits", x.ask(0), NONE);
        C.due("30 none fits at all", x.ask(1), NONE);
        x = Check.withRow(0, 0, 0, 1);
        C.due("30 an end of a row tells all", x.ask(1), 1);
        C.due("30 the lowest", x.ask(0), 0);
        x.wall(0, 1);
        // From house 0 the three others are alike: not to be come to.
        C.due("30 past the wall", x.ask(0), 1);
        C.due("30 tells all", x.ask(1), 1);
        x.wall(2, 3);
        C.due("30 two and two", x.ask(1), 2);
        C.due("30 lowest that leaves two", x.ask(0), 1);
    }

    private static void p31Post() {
        BeanStreet x = Check.withRow(0, 1, 2);
        C.due("31 already there", x.post(0, 0, 1, 1), 0);
        C.due("31 one goes", x.post(0, 1, 5, 5), 1);
        C.due("31 not past each other", x.post(0, 1, 1, 0), 5);
        C.due("31 behind each other", x.post(0, 1, 1, 4), 1);
        C.due("31 from the same", x.post(0, 1, 0, 2), NONE);
        C.due("31 to the same", x.post(0, 1, 2, 1), NONE);
        C.due("31 no such house", x.post(0, 6, 1, 2), NONE);
        C.due("31 below", x.post(-1, 1, 2, 3), NONE);
        x.wall(0, 1);
        C.due("31 no room to pass", x.post(0, 1, 1, 0), NONE);
        Check.row(x, 0, 1, 0, 1, 0, 1, 0);
        C.due("31 thirty-five", x.houses(), 35);
        C.due("31 a step", x.post(0, 1, 34, 34), 1);
        Check.row(x, 0, 0, 0, 0, 0, 1, 2);
        C.due("31 forty-two", x.post(0, 0, 1, 1), NONE);
    }

    private static void p32p33Drunk() {
        BeanStreet x = new BeanStreet();
        C.due("33 no drunk yet", x.drawn(0), NONE);
        Check.row(x, 0, 1, 2);
        x.drunk(-1, 0, 1);
        x.drunk(0, 6, 1);
        C.due("33 a refused drunk is none", x.drawn(0), NONE);
        x.image(1);
        x.back(1);
        C.due("33 nor does an image bring one", x.drawn(0), NONE);
        // s: 5, 17860, 711713, ...: of two steps the first, the second.
        C.due("32 no step", x.drunk(5, 3, 0), 3);
        C.due("33 at first", x.drawn(3), 1);
        C.due("32 first of two", x.drunk(5, 0, 1), 2);
        C.due("32 then the second", x.drunk(5, 0, 2), (17860L * 1103 + 12345) % 1000003 % 2 == 0 ? 0 : 3);
        C.due("33 at first, too", x.drawn(2), 1);
        C.due("32 longest", x.drunk(1000000, 0, 500) >= 0 ? 1 : 0, 1);
        int all = 0;
        for (int house = 0; house < 6; house++) {
            all += x.drawn(house);
        }
        C.due("33 in all", all, 501);
        int was = x.drawn(0);
        C.due("32 seed below", x.drunk(-1, 0, 1), -1);
        C.due("32 seed beyond", x.drunk(1000001, 0, 1), -1);
        C.due("32 steps below", x.drunk(0, 0, -1), -1);
        C.due("32 steps beyond", x.drunk(0, 0, 501), -1);
        C.due("32 -1 ahead of -2", x.drunk(-1, 6, 1), -1);
        C.due("32 no such house", x.drunk(0, 6, 1), -2);
        C.due("32 status", x.status(), -2);
        C.due("33 refused ones are not kept", x.drawn(0), was);
        C.due("33 no such house", x.drawn(6), NONE);
        C.due("33 below", x.drawn(-1), NONE);
        x.wall(0, 1);
        x.wall(0, 2);
        C.due("32 stays", x.drunk(7, 0, 9), 0);
        C.due("33 all the time", x.drawn(0), 10);
        C.due("33 never", x.drawn(1), 0);
        x.image(0);
        x.breach(0, 1);
        x.drunk(7, 0, 1);
        x.back(0);
        C.due("33 images keep no drunk", x.drawn(1), 1);
        x.beans(3, 1);
        C.due("33 nor do other beans take him away", x.drawn(1), 1);
        C.due("33 nor was he where there was no house", x.drawn(23), 0);
        x.beans(3, 0);
        x.beans(2, 0);
        x.beans(1, 0);
        C.due("33 there is no such house now", x.drawn(1), NONE);
    }

    private static void p34p35Images() {
        BeanStreet x = Check.withRow(0, 1, 2);
        C.due("35 not kept", x.back(0), -2);
        C.due("35 no such", x.back(2), -1);
        C.due("35 below", x.back(-1), -1);
        C.due("34 no such", x.image(2), -1);
        C.due("34 below", x.image(-1), -1);
        C.due("34 status", x.status(), -1);
        Check.law(x, "lets");
        x.force(0);
        x.terms(0, 1);
        x.terms(1, 5);
        x.wall(0, 1);
        x.clue(0, 1);
        x.swapIf(0, 1);
        C.due("34 kept", x.image(0), 0);
        int steps = x.step(0, NONE, 0);
        Check.law(x, "bars");
        x.force(1);
        x.terms(0, 0);
        x.terms(1, 6);
        x.wall(0, 2);
        x.clue(0, 2);
        x.swapIf(1, 2);
        x.image(1);
        x.beans(4, 1);
        Check.law(x, "nonsense");
        x.feed(0, 0, 0, 0, 0);
        int refused = x.count(11);
        C.due("35 back", x.back(0), 0);
        int[] due = {3, 1, 1, 1, 0, 0, 1, 1, 1, 1, 20, refused};
        for (int what = 0; what < due.length; what++) {
            C.due("35 count(" + what + ")", x.count(what), due[what]);
        }
        C.due("35 force", x.count(16), 0);
        C.due("35 turn", x.count(17), 1);
        C.due("35 day", x.count(18), 5);
        C.due("35 fault is not kept", x.fault(), 0);
        C.due("35 steps", x.step(0, NONE, 0), steps);
        C.due("35 houses", x.houses(), 6);
        C.due("35 wall", x.wall(1, 0), -3);
        C.due("35 the other image", x.back(1), 0);
        C.due("35 two laws", x.count(6), 2);
        C.due("35 no step", x.step(3, NONE, 0), 0);
        C.due("35 images stay", x.back(0), 0);
        C.due("35 as then", x.step(0, NONE, 0), steps);
        C.due("34 kept anew", x.image(1), 0);
        x.beans(0, 0);
        x.back(1);
        C.due("35 the newer", x.count(6), 1);
        x.end(0);
        C.due("35 a law more", Check.law(x, "takes 9"), 1);
        x.force(1);
        C.due("35 another law of that number", x.step(3, 0, 1), 9);

        x = Check.withRow(0, 1);
        x.image(0);
        Check.law(x, "takes 3");
        x.force(0);
        x.image(1);
        x.back(0);
        C.due("35 the first law again", Check.law(x, "takes 4"), 0);
        x.force(0);
        C.due("35 takes 4", x.step(0, 0, 1), 4);
        x.back(1);
        C.due("35 takes 3 again", x.step(0, 0, 1), 3);
    }

    private static void p36p37CountStatus() {
        BeanStreet x = new BeanStreet();
        C.due("36 below", x.count(-1), NONE);
        C.due("36 beyond", x.count(19), NONE);
        C.due("36 low", x.count(LOW), NONE);
        C.due("36 not refused", x.status(), 0);
        x.beans(9, 9);
        x.back(0);
        x.wall(0, 0);
        x.row();
        x.beans(0, 1);
        x.beans(1, 1);
        x.swapIf(0, 1);
        C.due("37 not refused", x.status(), 0);
        for (int i = 0; i < 13; i++) {
            x.swapIf(0, 1);
        }
        C.due("37 no room", x.status(), -5);
        int[] refused = {1, 1, 1, 2, 1};
        for (int i = 0; i < 5; i++) {
            C.due("36 refused " + i, x.count(11 + i), refused[i]);
        }
        x.code(-1);
        x.far(9, 9, 9);
        x.feed(0, 0, 0, 0, 0);
        x.end(99);
        x.forget();
        C.due("37 of others the status stays", x.status(), -5);
        C.due("36 NONE is not refused", x.count(11), 1);
        x.keep(0);
        C.due("37 kept", x.status(), 0);
        C.due("36 bytes", x.count(10), 20);
        for (int i = 0; i < 5; i++) {
            C.due("36 beans " + i, x.count(i), i == 0 ? 2 : i < 3 ? 1 : 0);
        }
    }

    public static void main(String[] args) {
        p1NewObject();
        p2Beans();
        p3Houses();
        p4Code();
        p5House();
        p6Terms();
        p7Feed();
        p8End();
        p9Row();
        p10p11LawFault();
        p12Force();
        p13p14WallBreach();
        p15Step();
        p16Far();
        p17Way();
        p18Reach();
        p19Read();
        p20Parted();
        p21Rows();
        p22Round();
        p23p24Machine();
        p25p26Sorts();
        p27p28p29Clues();
        p30Ask();
        p31Post();
        p32p33Drunk();
        p34p35Images();
        p36p37CountStatus();
        C.finish();
    }
}
