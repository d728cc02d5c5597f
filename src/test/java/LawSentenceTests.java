import java.io.IOException;

/** The document's Terms II: a test for each sentence on laws that names an edge. */
public final class LawSentenceTests {
    private static final int NONE = BeanStreet.NONE;

    private LawSentenceTests() {
    }

    /** A text has its fault there; NONE: it is a law. */
    private static void fault(Check c, String text, int place) {
        BeanStreet x = new BeanStreet();
        c.due("law(" + text + ")", Check.law(x, text), place == NONE ? 0 : -6);
        c.due("fault of " + text, x.fault(), place);
    }

    /** What the exchange of 13 takes on day 9 by a law; 0 if it is not let. */
    private static void takes(Check c, String law, int want) {
        BeanStreet x = Check.lawful(law, 1, 3);
        c.due("in force: " + law, x.count(16), 0);
        x.terms(1, 9);
        c.due(law, x.step(0, NONE, 0) == 0 ? 0 : x.step(0, 0, 1), want);
    }

    /** Whether a test is so (1), is not so (0), or is broken (2). */
    private static void test(Check c, String test, int want) {
        takes(c, "takes 7;takes 8 if " + test, want == 1 ? 8 : 7);
        takes(c, "takes 7;takes 8 if not (" + test + ")", want == 0 ? 8 : 7);
    }

    /** How many steps lead from 0123 and what each takes. */
    private static void steps(Check c, String law, int... takes) {
        BeanStreet x = Check.lawful(law, 0, 1, 2, 3);
        c.due(law, x.step(0, NONE, 0), takes.length);
        for (int i = 0; i < takes.length; i++) {
            c.due(law + ", step " + i, x.step(0, i, 1), takes[i]);
        }
    }

    private static void sixLaws(Check c) {
        BeanStreet x = new BeanStreet();
        for (int i = 0; i < 6; i++) {
            c.due("law " + i, Check.law(x, "lets"), i);
        }
        c.due("a seventh", Check.law(x, "lets"), -5);
        c.due("six are there", x.count(6), 6);
        c.due("the last in force", x.force(5), NONE);
        c.due("no seventh", x.force(6), -2);
    }

    private static void tape400(Check c) {
        fault(c, "lets" + " ".repeat(396), NONE);
        fault(c, "takes" + " ".repeat(395), 400);
        fault(c, " ".repeat(396) + "bars", NONE);
        fault(c, " ".repeat(397) + "let", 397);
        fault(c, " ".repeat(400), 400);
        fault(c, " ".repeat(399) + "x", 399);
        fault(c, "lets if " + "not ".repeat(97) + "  1=", 400);
        fault(c, "lets if " + "not ".repeat(97) + "1=1", NONE);
        fault(c, "takes " + "0".repeat(394), NONE);
        fault(c, "takes " + "9".repeat(394), 6);
        fault(c, "x".repeat(400), 0);
    }

    private static void noneInForce(Check c) {
        BeanStreet x = Check.withRow(0, 1, 2, 3);
        c.due("at first", x.count(16), NONE);
        Check.law(x, "bars");
        c.due("a law alone is not in force", x.count(16), NONE);
        c.due("side by side", x.step(0, NONE, 0), 3);
        c.due("takes 1", x.step(0, 2, 1), 1);
    }

    private static void letters(Check c) {
        fault(c, "letsif 1=1", 0);
        fault(c, "letsa", 0);
        fault(c, "letsz", 0);
        fault(c, "let s", 0);
        fault(c, "lets ifa=1", 5);
        fault(c, "lets if1=1", NONE);
        fault(c, "takes1if1=1", NONE);
        fault(c, "takesone", 0);
        fault(c, "takes beansday", 6);
        fault(c, "takes one1", 9);
        fault(c, "takes a", 6);
        fault(c, "takes z", 6);
        fault(c, "lets if 1=1or2=2", NONE);
        fault(c, "lets if not1=1", NONE);
        fault(c, "lets if notone=1", 8);
    }

    private static void digits(Check c) {
        fault(c, "takes 1 0", 8);
        fault(c, "takes 10 00", 9);
        fault(c, "takes 09", NONE);
        fault(c, "takes 90", NONE);
        fault(c, "takes 2day", 7);
        fault(c, "0", 0);
    }

    private static void otherBytes(Check c) {
        fault(c, "lets if 1<=2", 10);
        fault(c, "lets if 1==1", 10);
        fault(c, "takes 2**2", 8);
        fault(c, "takes 2--2", 8);
        fault(c, "LETS", 0);
        fault(c, "lets IF 1=1", 5);
        fault(c, "takes oNE", 6);
        fault(c, "takes 1.", 7);
        // The signs beside the letters, the digits and those of the language.
        for (char sign : "`{/:@[^_!\"',.?&|%~\\#$".toCharArray()) {
            fault(c, "lets" + sign + "if 1=1", 4);
        }
    }

    private static void blanks(Check c) {
        fault(c, "  takes  1  +  [  2  ]  if  (  1  <  2  )  ;  lets  ", NONE);
        fault(c, "takes 1+[2]if(1<2);lets", NONE);
        int[] others = {0, 1, 9, 10, 13, 31, 33, 127, 128, 160, 224, 255};
        for (int sign : others) {
            fault(c, "takes" + (char) sign + "1", 5);
            fault(c, "takes 1" + (char) sign, 7);
        }
    }

    private static void twelveClauses(Check c) {
        fault(c, "lets" + ";bars".repeat(11), NONE);
        fault(c, "lets" + ";bars".repeat(12), 60);
        fault(c, "lets" + ";bars".repeat(11) + " ;  bars", 63);
        fault(c, "lets" + ";bars".repeat(11) + ";", 60);
        fault(c, "lets" + ";bars".repeat(11) + ";  ", 62);
        fault(c, "lets" + ";bars".repeat(11) + ";what", 60);
        fault(c, "lets" + ";bars".repeat(11) + ";;", 60);
        fault(c, "lets" + ";bars".repeat(11) + " bars", 60);
    }

    private static void clause(Check c) {
        fault(c, "", 0);
        fault(c, "if 1=1", 0);
        fault(c, ";", 0);
        fault(c, "lets;", 5);
        fault(c, "lets;;bars", 5);
        fault(c, "lets 1", 5);
        fault(c, "bars one", 5);
        fault(c, "takes", 5);
        fault(c, "takes if 1=1", 6);
        fault(c, "takes;lets", 5);
        fault(c, "lets bars", 5);
        fault(c, "lets if", 7);
        fault(c, "lets if;", 7);
        fault(c, "lets if 1=1 if 1=1", 12);
        fault(c, "lets if 1=1 takes 1", 12);
    }

    private static void orOfBoths(Check c) {
        fault(c, "lets if or 1=1", 8);
        fault(c, "lets if 1=1 or", 14);
        fault(c, "lets if 1=1 or or 1=1", 15);
        fault(c, "lets if 1=1 or;lets", 14);
        takes(c, "takes 8 if 1=1 or 1=2", 8);
        takes(c, "takes 8 if 1=2 or 1=2", 1);
        test(c, "1=2 or 1=2 or 1=1", 1);
        test(c, "1=2 or 1=2 or 1=2", 0);
    }

    private static void andOfPlains(Check c) {
        fault(c, "lets if and 1=1", 8);
        fault(c, "lets if 1=1 and", 15);
        fault(c, "lets if 1=1 and and 1=1", 16);
        test(c, "1=1 and 1=1 and 1=1", 1);
        test(c, "1=1 and 1=1 and 1=2", 0);
        test(c, "1=1 or 1=1 and 1=2", 1);
        test(c, "1=2 and 1=1 or 1=1", 1);
        test(c, "(1=1 or 1=1) and 1=2", 0);
    }

    private static void plain(Check c) {
        fault(c, "lets if not", 11);
        fault(c, "lets if not;", 11);
        fault(c, "lets if ()", 9);
        fault(c, "lets if (1=1", 12);
        fault(c, "lets if (1=1]", 12);
        fault(c, "lets if 1=1)", 11);
        fault(c, "lets if (1)=1", 10);
        fault(c, "lets if [1=1]", 10);
        fault(c, "lets if 1", 9);
        fault(c, "lets if 1+", 10);
        fault(c, "lets if 1 and 1=1", 10);
        fault(c, "lets if 1=", 10);
        fault(c, "lets if =1", 8);
        fault(c, "lets if 1=1=1", 11);
        fault(c, "lets if 1=(1)", 10);
        fault(c, "lets if 1=not 1", 10);
        test(c, "not not 1=1", 1);
        test(c, "not 1=1 or 1=1", 1);
        test(c, "not 1=2 and 1=2", 0);
        test(c, "1<2", 1);
        test(c, "2<2", 0);
        test(c, "2>1", 1);
        test(c, "2>2", 0);
        test(c, "2=2", 1);
    }

    private static void sums(Check c) {
        fault(c, "takes +1", 6);
        fault(c, "takes -1", 6);
        fault(c, "takes 1+", 8);
        fault(c, "takes 1-;lets", 8);
        fault(c, "takes *1", 6);
        fault(c, "takes 1*", 8);
        fault(c, "takes 1/", 8);
        fault(c, "takes []", 7);
        fault(c, "takes [1", 8);
        fault(c, "takes [1)", 8);
        fault(c, "takes 1]", 7);
        fault(c, "takes (1)", 6);
        takes(c, "takes 20-5-3", 12);
        takes(c, "takes 20-[5-3]", 18);
        takes(c, "takes 2+3*4", 14);
        takes(c, "takes 40/4*2", 20);
        takes(c, "takes 40/[4*2]", 5);
    }

    private static void toThousand(Check c) {
        fault(c, "takes 0", NONE);
        fault(c, "takes 000", NONE);
        fault(c, "takes 999", NONE);
        fault(c, "takes 1000", NONE);
        fault(c, "takes 00000000000000001000", NONE);
        fault(c, "takes 1001", 6);
        fault(c, "takes 1+ 1001", 9);
        fault(c, "takes 10000", 6);
        fault(c, "lets if 1=1001", 10);
        // Numbers that would come out as 1 if they went around.
        fault(c, "takes 257", NONE);
        fault(c, "takes 65537", 6);
        fault(c, "takes 4294967297", 6);
        fault(c, "takes 18446744073709551617", 6);
    }

    private static void words(Check c) {
        String[] words = {"left", "right", "one", "other", "apart", "first", "beans", "day"};
        for (String word : words) {
            fault(c, "takes " + word, NONE);
            fault(c, "takes " + word + "s", 6);
            fault(c, "takes " + word.substring(1), 6);
            fault(c, word, 0);
        }
        String[] others = {"takes", "lets", "bars", "if", "or", "and", "not"};
        for (String word : others) {
            fault(c, "takes " + word, 6);
        }
    }

    private static void fiftyParts(Check c) {
        fault(c, "takes 1" + "+1".repeat(49), NONE);
        fault(c, "takes 1" + "+1".repeat(50), 106);
        fault(c, "takes 1" + "+day+1".repeat(24) + "+day", NONE);
        fault(c, "takes 1" + "+day+1".repeat(24) + "+day + day", 158);
        fault(c, "takes 1" + "+1".repeat(49) + "+", 106);
        fault(c, "takes 1" + "+1".repeat(49) + "+[1]", 107);
        fault(c, "takes 1" + "+1".repeat(49) + "+1001", 106);
        fault(c, "takes [1]" + "+[1]".repeat(49), NONE);
        fault(c, "takes 1" + "+1".repeat(47) + " if 1=1;lets;bars", NONE);
        fault(c, "takes 1" + "+1".repeat(47) + " if 1=1;lets;bars if 1=1", 122);
        BeanStreet x = new BeanStreet();
        for (int i = 0; i < 6; i++) {
            c.due("each text for itself " + i, Check.law(x, "takes 1" + "+1".repeat(i < 5 ? 49 : 30)), i);
        }
        // They stand, and all count.
        takes(c, "takes 1" + "+1".repeat(49), 50);
    }

    private static void eightBrackets(Check c) {
        fault(c, "takes " + "[".repeat(8) + "1" + "]".repeat(8), NONE);
        fault(c, "takes " + "[".repeat(9) + "1" + "]".repeat(9), 14);
        fault(c, "lets if " + "(".repeat(8) + "1=1" + ")".repeat(8), NONE);
        fault(c, "lets if " + "(".repeat(9) + "1=1" + ")".repeat(9), 16);
        fault(c, "lets if ((((" + "[[[[1]]]]=[[[[1]]]]" + "))))", NONE);
        fault(c, "lets if ((((" + "[[[[[1]]]]]=1" + "))))", 16);
        fault(c, "lets if (((((((" + "[1]=[[1]]" + ")))))))", 20);
        fault(c, "lets if (((((((( [1]=1))))))))", 17);
        fault(c, "takes " + "[1]+".repeat(20) + "[1]", NONE);
        fault(c, "takes [[[[[[[[1]]]]]]]]+[[[[[[[[1]]]]]]]];lets if ((((((((1=1))))))))", NONE);
        fault(c, "lets if " + "not (".repeat(8) + "1=1" + ")".repeat(8), NONE);
        fault(c, "lets if " + "not (".repeat(9) + "1=1" + ")".repeat(9), 52);
        takes(c, "takes " + "[2+".repeat(8) + "1" + "]".repeat(8), 17);
    }

    private static void faultAtTheEnd(Check c) {
        fault(c, "takes", 5);
        fault(c, "takes   ", 8);
        fault(c, "lets if (1=1 ", 13);
        fault(c, "lets  ;  ", 9);
        fault(c, " what takes", 1);
        fault(c, "takes 1 what wrong", 8);
    }

    private static void placesAndColours(Check c) {
        // From 204, which is house 2: the exchanges of 0 and 1, 0 and 2, 1 and 2.
        String[] sums = {"10*left+right", "10*one+other", "10*apart", "10*first+5", "10*beans+2", "10*day+7"};
        int[][] due = {{1, 2, 12}, {20, 24, 4}, {10, 20, 10}, {25, 25, 25}, {32, 32, 32}, {97, 97, 97}};
        for (int i = 0; i < sums.length; i++) {
            BeanStreet x = Check.lawful("lets;takes " + sums[i], 2, 0, 4);
            x.terms(1, 9);
            for (int step = 0; step < 3; step++) {
                c.due(sums[i] + " of step " + step, x.step(2, step, 1), due[i][step]);
            }
        }
        BeanStreet x = Check.lawful("lets if left>right or left=right", 0, 1, 2, 3);
        c.due("left ahead of right alone", x.step(0, NONE, 0), 0);
        x = Check.lawful("lets;takes 10*apart", 0, 1, 1, 1, 1, 1, 1);
        c.due("six apart", x.step(0, 5, 1), 60);
    }

    private static void thousandMillion(Check c) {
        test(c, "1000*1000*1000=1000*1000*1000", 1);
        test(c, "1000*1000*1000+1>0", 2);
        test(c, "1+1000*1000*1000>0", 2);
        test(c, "1000*1000*1000+1-1>0", 2);
        test(c, "0-1000*1000*1000<0", 1);
        test(c, "0-1000*1000*1000-1<0", 2);
        test(c, "[0-1000]*1000*1000<0", 1);
        test(c, "[0-1000]*1000*1000*2<0", 2);
        test(c, "1000*1000*1000*2/2>0", 2);
        test(c, "1000*1000*1000*1000>0", 2);
        test(c, "0-[0-1000*1000*1000]=1000*1000*1000", 1);
        // Products that would come out as 0 if they went around.
        test(c, "256*256*256*256=0", 2);
        test(c, "256*256*256*256*256*256*256*256=0", 2);
        test(c, "1000" + "*1000".repeat(24) + "=0", 2);
        takes(c, "takes 7;takes 1000*1000*1000", 99);
        takes(c, "takes 7;takes 1000*1000*1000+1", 7);
        takes(c, "takes 7;takes 0-1000*1000*1000", 1);
        takes(c, "takes 7;takes 0-1000*1000*1000-1", 7);
    }

    private static void byZero(Check c) {
        test(c, "1/0=0", 2);
        test(c, "0/0=0", 2);
        test(c, "0=1/0", 2);
        test(c, "1/[1-1]>0", 2);
        test(c, "1/[1/2]>0", 2);
        test(c, "1/0*0=0", 2);
        test(c, "[1/0]=0", 2);
        test(c, "0/1=0", 1);
        takes(c, "takes 7;takes 8/0", 7);
        takes(c, "takes 7;takes 8*[1/0]", 7);
        // 0 at a colour, at a place.
        takes(c, "takes 7;takes 8/left", 7);
        takes(c, "takes 7;takes 8/right", 8);
    }

    private static void cutTowardsZero(Check c) {
        test(c, "7/2=3", 1);
        test(c, "[0-7]/2=0-3", 1);
        test(c, "7/[0-2]=0-3", 1);
        test(c, "[0-7]/[0-2]=3", 1);
        test(c, "1/2=0", 1);
        test(c, "[0-1]/2=0", 1);
        test(c, "7/2*2=6", 1);
    }

    private static void holds(Check c) {
        takes(c, "takes 7;takes 8", 8);
        takes(c, "takes 7;takes 8 if 1=1", 8);
        takes(c, "takes 7;takes 8 if 1=2", 7);
        takes(c, "takes 7;takes 8 if 1/0=1", 7);
        takes(c, "takes 7;takes 8/0 if 1=1", 7);
        takes(c, "takes 7;takes 8/0 if 1/0=1", 7);
        takes(c, "lets if 1/0=1", 0);
        takes(c, "lets if not 1/0=1", 0);
        takes(c, "bars if 1/0=1", 1);
        takes(c, "bars if not 1/0=1", 1);
        takes(c, "bars if 1/0=1;takes 5", 5);
    }

    private static void canStillMatter(Check c) {
        test(c, "1=1 or 1/0=1", 1);
        test(c, "1=2 or 1/0=1", 2);
        test(c, "1=2 and 1/0=1", 0);
        test(c, "1=1 and 1/0=1", 2);
        test(c, "1/0=1 or 1=1", 2);
        test(c, "1/0=1 and 1=2", 2);
        test(c, "1=2 or 1=1 or 1/0=1", 1);
        test(c, "1=1 and 1=2 and 1/0=1", 0);
        test(c, "1=2 and 1/0=1 and 1/0=1", 0);
        test(c, "1=2 and 1/0=1 or 1=1", 1);
        test(c, "1=2 and 1/0=1 or 1=2", 0);
        test(c, "1=1 or 1=1 and 1/0=1", 1);
        test(c, "1=1 and (1=1 or 1/0=1)", 1);
        test(c, "1=2 and (1=2 or 1/0=1)", 0);
        test(c, "not (1=1 or 1/0=1)", 0);
        test(c, "not 1=1 and 1/0=1", 0);
    }

    private static void isLet(Check c) {
        steps(c, "takes 5", 5, 5, 5);
        steps(c, "bars", new int[0]);
        steps(c, "bars if left=1", 1, 1);
        steps(c, "lets", 1, 1, 1, 1, 1, 1);
        steps(c, "lets if 1=2", new int[0]);
        steps(c, "lets if 1/0=1", new int[0]);
        steps(c, "lets if apart=3", 1);
        steps(c, "lets if apart=3;lets if apart=2", 1, 1, 1);
        steps(c, "lets;bars if apart=1;bars if 1=2", 1, 1, 1);
        steps(c, "bars if apart>1;lets", 1, 1, 1);
        BeanStreet x = Check.lawful("lets", 0, 1, 2, 3);
        x.force(NONE);
        c.due("without a law", x.step(0, NONE, 0), 3);
    }

    private static void lastThatHolds(Check c) {
        takes(c, "takes 7;takes 8;takes 9 if 1=2", 8);
        takes(c, "takes 8;takes 7", 7);
        takes(c, "takes 7;lets;takes 8;bars if 1=2", 8);
    }

    private static void nearest(Check c) {
        takes(c, "takes 1", 1);
        takes(c, "takes 0", 1);
        takes(c, "takes 0-1000", 1);
        takes(c, "takes 99", 99);
        takes(c, "takes 100", 99);
        takes(c, "takes 1000", 99);
        takes(c, "takes 7;takes 0", 1);
    }

    private static void oneWithout(Check c) {
        takes(c, "lets", 1);
        takes(c, "takes 9 if 1=2", 1);
        takes(c, "takes 9/0", 1);
        steps(c, "takes 9 if left=0", 9, 1, 1);
        steps(c, "takes 9 if left=1", 1, 9, 1);
        c.due("no law", Check.withRow(0, 1).step(0, 0, 1), 1);
    }

    public static void main(String[] args) throws IOException {
        Sentences s = new Sentences();
        s.of("Terms");
        s.says("LAWS are TEXTS, 6 at most", LawSentenceTests::sixLaws);
        s.says("on a TAPE of at most 400 bytes", LawSentenceTests::tape400);
        s.says("one is in FORCE (NONE at first: no CLAUSE)", LawSentenceTests::noneInForce);
        s.says("TOKENS: longest rows of letters a .. z", LawSentenceTests::letters);
        s.says("of letters a .. z, of digits", LawSentenceTests::digits);
        s.says("single other bytes", LawSentenceTests::otherBytes);
        s.says("any blanks (32) between", LawSentenceTests::blanks);
        s.says("CLAUSE {\";\" CLAUSE}, 12 at most (FAULT at the 13th's first TOKEN)",
                LawSentenceTests::twelveClauses);
        s.says("CLAUSE: (\"takes\" SUM | \"lets\" | \"bars\") [\"if\" TEST].", LawSentenceTests::clause);
        s.says("TEST: BOTH {\"or\" BOTH}.", LawSentenceTests::orOfBoths);
        s.says("BOTH: PLAIN {\"and\" PLAIN}.", LawSentenceTests::andOfPlains);
        s.says("PLAIN: \"not\" PLAIN | \"(\" TEST \")\" | SUM (\"<\" | \">\" | \"=\") SUM.",
                LawSentenceTests::plain);
        s.says("SUM: TERM {(\"+\" | \"-\") TERM}. TERM: PART {(\"*\" | \"/\") PART}.", LawSentenceTests::sums);
        s.says("NUMBER (to 1,000)", LawSentenceTests::toThousand);
        s.says("\"left\" | \"right\" | \"one\" | \"other\" | \"apart\" | \"first\" | \"beans\" | \"day\"",
                LawSentenceTests::words);
        s.says("50 PARTS that are NUMBERS and words (FAULT at the 51st)", LawSentenceTests::fiftyParts);
        s.says("8 brackets of both kinds within one another (FAULT at the 9th) at most",
                LawSentenceTests::eightBrackets);
        s.says("FAULT: the first TOKEN that can't go on there (the end's: the TEXT's length)",
                LawSentenceTests::faultAtTheEnd);
        s.says("It is asked of an EXCHANGE at a HOUSE of two PLACES, left ahead of right",
                LawSentenceTests::placesAndColours);
        s.says("Beyond 1,000,000,000 either way", LawSentenceTests::thousandMillion);
        s.says("or divided by 0, a SUM, a TEST is BROKEN", LawSentenceTests::byZero);
        s.says("/ is cut towards 0", LawSentenceTests::cutTowardsZero);
        s.says("A CLAUSE HOLDS, if its \"if\" (if it has one) is so, and neither that nor its SUM is BROKEN",
                LawSentenceTests::holds);
        s.says("(\"or\", \"and\" ask what stands behind only if it can still matter)",
                LawSentenceTests::canStillMatter);
        s.says("An EXCHANGE is LET, if \"lets\" HOLDS (with a LAW in FORCE that has no \"lets\", or without one:"
                + " if both PLACES are side by side), and \"bars\" does not.", LawSentenceTests::isLet);
        s.says("It TAKES what the last \"takes\" that HOLDS tells", LawSentenceTests::lastThatHolds);
        s.says("1 .. 99 (else the nearest)", LawSentenceTests::nearest);
        s.says("1 without.", LawSentenceTests::oneWithout);
        s.finish();
    }
}
