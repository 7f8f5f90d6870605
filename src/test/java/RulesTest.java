/** Promises 14 to 18: the tape, texts, and what they tell. */
public final class RulesTest {
    private static final Checks T = new Checks("RulesTest");
    private static final int MIN = Integer.MIN_VALUE, MAX = Integer.MAX_VALUE;

    public static void main(String[] args) {
        feeding();
        goodTexts();
        faults();
        longTexts();
        usingUp();
        lines();
        conditions();
        numbersTold();
        whichLine();
        voting();
        T.end();
    }

    private static void feeding() {
        LongStrike x = new LongStrike();
        for (int n : new int[] {0, -1, 9, MIN, MAX}) T.due("feed(0, " + n + ")", x.feed(0, n), -1);
        T.due("nothing came", x.many(14), 0);
        for (int i = 1; i <= 37; i++) T.due("feed 8", x.feed(0x2020202020202020L, 8), 8 * i);
        T.due("more than 300", x.feed(0x2020202020202020L, 5), -2);
        T.due("too many at once: BAD first", x.feed(0, 9), -1);
        T.due("nothing came", x.many(14), 296);
        T.due("300", x.feed(0x20202020L, 4), 300);
        T.due("full", x.feed(32, 1), -2);
        T.due("300 blanks are a text", x.read(0), 0);
        T.due("the lowest byte first", x.feed(0x65746f76L | 0xFFL << 32, 4), 4);
        x.feed(';', 1);
        T.due("vote;", x.read(0), 1);
        x.feed(0xFFFFFF3B65746F76L, 5);
        T.due("bytes above are not looked at", x.read(0), 1);
    }

    private static void good(String text, int lines) {
        T.due("\"" + text + "\"", Checks.read(new LongStrike(), 0, text), lines);
    }

    private static void goodTexts() {
        good("", 0);
        good("    ", 0);
        good("vote;", 1);
        good(" vote ; ", 1);
        good("ticket5;", 1);
        good("ticket 999;rank 9;safety 0;quorum 999;evict 999;vote;relief 0;", 7);
        good("ticket 007;rank 009;", 2);
        good("ticket 5if will>3;", 1);
        good("ticket 5 if will>3and coal<1or pit=0;", 1);
        good("ticket 5 if(will>3);", 1);
        good("ticket 5 if((will>3)and(coal=1)or not(not pit=2));", 1);
        good("vote if not not not not village=3;", 1);
        good("rank 1 if mouths<1 or owes=2 or will>3 or coal<4 or hungry=5 or pit>6 or village<7;", 1);
        good("relief 3 if ((((pit=1)))) and ((((pit=1))));", 1);
        good("vote;".repeat(10) + "   ", 10);
    }

    private static void fault(String text, int place) {
        LongStrike x = new LongStrike();
        Checks.read(x, 1, "relief 4; relief 5;");
        T.due("\"" + text + "\"", Checks.read(x, 1, text), -100 - place);
        T.due("the tape is used up", x.many(14), 0);
        T.due("the rules stay", x.line(1, 1, 1), 5);
        T.due("the rules stay", x.line(1, 2, 0), -9);
    }

    private static void faults() {
        fault(";", 0);
        fault("  ;", 2);
        fault("5;", 0);
        fault("if;", 0);
        fault("mouths;", 0);
        fault("Vote;", 0);
        fault("vote\n;", 4);
        fault("vote\u0000;", 4);
        fault("\u00ffvote;", 0);
        fault("vote", 4);
        fault("vote  ", 6);
        fault("vote;vote", 9);
        fault("vote;;", 5);
        fault("votes;", 0);
        fault("vot e;", 0);
        fault("vote 5;", 5);
        fault("vote vote;", 5);
        fault("ticket;", 6);
        fault("ticket  ", 8);
        fault("ticket x;", 7);
        fault("ticket 1000;", 7);
        fault("ticket 0001;", 7);
        fault("ticket 5 5;", 9);
        fault("ticket 5,;", 8);
        fault("ticket -5;", 7);
        fault("ticket 5 if;", 11);
        fault("ticket 5 if ", 12);
        fault("ticket 5if", 10);
        fault("ticket 5 iff will>1;", 9);
        fault("ticket 5 when will>1;", 9);
        fault("ticket 5 if 5>will;", 12);
        fault("ticket 5 if will 5;", 17);
        fault("ticket 5 if will>;", 17);
        fault("ticket 5 if will>x;", 17);
        fault("ticket 5 if will>=5;", 17);
        fault("ticket 5 if will > 1000;", 19);
        fault("ticket 5 if will>5", 18);
        fault("ticket 5 if will>5 and;", 22);
        fault("ticket 5 if and pit=1;", 12);
        fault("ticket 5 if or pit=1;", 12);
        fault("ticket 5 if );", 12);
        fault("ticket 5 if ;", 12);
        fault("ticket 5 if will and pit=1;", 17);
        fault("ticket 5 if will;", 16);
        fault("ticket 5 if will> and pit=1;", 18);
        fault("ticket 5 if will>(5);", 17);
        fault("ticket 5 if (will)>5;", 17);
        fault("ticket 5 if will<>5;", 17);
        fault("ticket (5);", 7);
        fault("ticket 5 if (will>5) (pit=1);", 21);
        fault("ticket 5 if (will>5) not pit=1;", 21);
        fault("ticket 5 if (will>5) 5;", 21);
        fault("ticket 5 if will>5 and", 22);
        fault("ticket 5 if will>5 and or pit=1;", 23);
        fault("ticket 5 if will>5 not pit=1;", 19);
        fault("ticket 5 if will>5 pit=1;", 19);
        fault("ticket 5 if will>5);", 18);
        fault("ticket 5 if (will>5;", 19);
        fault("ticket 5 if (will>5", 19);
        fault("ticket 5 if ();", 13);
        fault("ticket 5 if not;", 15);
        fault("ticket 5 if nothing=1;", 12);
        fault("ticket 5 if ticket=1;", 12);
        fault("ticket 5 if (((((pit=1)))));", 16);
        fault("ticket 5 if ((((pit=1)) and (((pit=1);", 30);
        fault("ticket 5 if (not(not(not(not(pit=1)))));", 28);
        fault("rank 10;", 5);
        fault("rank 010;", 5);
        fault("rank 0009;", 5);
        fault("safety 5 if pit=0;", 9);
        fault("quorum 5 if pit=0;", 9);
        fault("evict 5 if pit=0;", 8);
        fault("safety;", 6);
        fault("vote;".repeat(10) + " vote;", 51);
        fault("vote;".repeat(10) + "x", 50);
        fault("vote;".repeat(10) + ";", 50);
        fault("vote;".repeat(9) + "vote", 49);
    }

    private static void longTexts() {
        StringBuilder nots = new StringBuilder("vote if ");
        for (int i = 0; i < 70; i++) nots.append("not ");
        good(nots + "pit=1;", 1);
        StringBuilder ors = new StringBuilder("vote if pit=1");
        for (int i = 0; i < 31; i++) ors.append(" or pit=1");
        good(ors + ";", 1);
        fault(" ".repeat(300).substring(0, 299) + "x", 299);
        fault("ticket " + "9".repeat(293), 7);
        fault("x".repeat(300), 0);
        fault(";".repeat(300), 0);
        fault("(".repeat(300), 0);
        LongStrike often = Checks.valley(1, 1);
        often.household(0, 0, 1, 0, 50);
        for (int i = 0; i < 12; i++) {
            T.due("often", Checks.read(often, 0, ors + ";"), 1);
            T.due("it doesn't hold", often.of(0, 15), 0);
            T.due("often", Checks.read(often, 0, "vote if not(" + ors.substring(8) + ");"), 1);
            T.due("it holds", often.of(0, 15), 1);
        }
        fault("ticket 5 if " + "(".repeat(288), 16);
        LongStrike x = Checks.valley(1, 1);
        x.household(0, 0, 1, 0, 50);
        Checks.read(x, 0, nots + "pit=1;");
        T.due("70 times not is not at all", x.of(0, 15), 0);
        Checks.read(x, 0, "vote if not " + nots.substring(8) + "pit=1;");
        T.due("71 times not is not", x.of(0, 15), 1);
    }

    private static void usingUp() {
        LongStrike x = new LongStrike();
        Checks.feed(x, "vote;");
        for (int side : new int[] {-1, 3, MIN, MAX}) T.due("read(" + side + ")", x.read(side), -1);
        T.due("a read that is refused uses the tape up, too", x.many(14), 0);
        Checks.feed(x, "vote;");
        T.due("read(0)", x.read(0), 1);
        T.due("the tape is used up", x.many(14), 0);
        T.due("a side has its own rules", x.line(1, 0, 0), -9);
        T.due("an empty text", x.read(0), 0);
        T.due("the latest rules", x.line(0, 0, 0), -9);
    }

    private static void lines() {
        LongStrike x = new LongStrike();
        Checks.read(x, 2, "ticket 12 if pit=0;rank 3;safety 4;quorum 5;evict 6;vote;vote if will>1;relief 8 if will<2;");
        int[][] told = {{0, 12, 1}, {1, 3, 0}, {2, 4, 0}, {3, 5, 0}, {4, 6, 0}, {5, -9, 0}, {5, -9, 1}, {6, 8, 1}};
        for (int i = 0; i < told.length; i++) {
            for (int what = 0; what < 3; what++) T.due("line(2, " + i + ", " + what + ")", x.line(2, i, what), told[i][what]);
        }
        Checks.read(x, 0, "rank 7;");
        Checks.read(x, 1, "quorum 8;");
        T.due("the union's", x.line(0, 0, 1), 7);
        T.due("the county's", x.line(1, 0, 1), 8);
        T.due("the company's", x.line(2, 0, 1), 12);
        T.due("no more", x.line(0, 1, 1), -9);
        Checks.read(x, 0, "");
        int[][] wrong = {{-1, 0, 0}, {3, 0, 0}, {2, -1, 0}, {2, 8, 0}, {2, 0, -1}, {2, 0, 3}, {0, 0, 0}, {MIN, 0, 0}, {2, MAX, 0},
            {2, 0, MIN}};
        for (int[] w : wrong) T.due("no such line", x.line(w[0], w[1], w[2]), -9);
    }

    private static void cond(LongStrike x, int home, String cond, boolean isTrue) {
        Checks.read(x, 0, "ticket 1 if " + cond + ";");
        T.due(cond, x.of(home, 12), isTrue ? 1 : 0);
    }

    private static void conditions() {
        LongStrike x = Checks.valley(3, 2);
        x.shop(2, 2);
        x.shop(2, 3);
        x.household(2, 1, 7, 1120, 40);
        x.days(1);
        // mouths 7, garden 1, owes 5, will 38, coal 11, hungry 1, pit 1, village 2
        String[] facts = {"mouths", "owes", "will", "coal", "hungry", "pit", "village"};
        int[] are = {7, 5, 38, 11, 1, 1, 2};
        for (int i = 0; i < facts.length; i++) {
            for (int d = -1; d <= 1; d++) {
                cond(x, 0, facts[i] + "<" + (are[i] + d), d > 0);
                cond(x, 0, facts[i] + "=" + (are[i] + d), d == 0);
                cond(x, 0, facts[i] + ">" + (are[i] + d), d < 0);
            }
        }
        cond(x, 0, "mouths<0", false);
        cond(x, 0, "mouths=0", false);
        cond(x, 0, "mouths>0", true);
        cond(x, 0, "village<999", true);
        cond(x, 0, "village=999", false);
        cond(x, 0, "village>999", false);
        cond(x, 0, "mouths>998", false);
        String yes = "pit=1";
        String no = "pit=0";
        cond(x, 0, yes + " or mouths<0", true);
        cond(x, 0, "mouths<0 or " + yes, true);
        cond(x, 0, yes + " or " + no, true);
        cond(x, 0, no + " or " + yes, true);
        cond(x, 0, no + " or " + no, false);
        cond(x, 0, yes + " and " + yes, true);
        cond(x, 0, yes + " and " + no, false);
        cond(x, 0, no + " and " + yes, false);
        cond(x, 0, no + " or " + yes + " and " + no, false);
        cond(x, 0, no + " or " + yes + " and " + yes, true);
        cond(x, 0, "not " + no, true);
        cond(x, 0, "not not " + no, false);
        cond(x, 0, "not " + yes, false);
        cond(x, 0, yes + " or " + yes + " and " + no, true);
        cond(x, 0, "(" + yes + " or " + yes + ") and " + no, false);
        cond(x, 0, no + " and " + no + " or " + yes, true);
        cond(x, 0, no + " and (" + no + " or " + yes + ")", false);
        cond(x, 0, "not " + no + " and " + no, false);
        cond(x, 0, "not (" + no + " and " + no + ")", true);
        cond(x, 0, "not " + yes + " or " + yes, true);
        cond(x, 0, "not (" + yes + " or " + yes + ")", false);
        cond(x, 0, no + " or " + yes + " and not (" + no + " or not (" + yes + " and (" + yes + ")))", true);
        cond(x, 0, "((((" + no + " or " + yes + " and " + yes + ") and " + yes + ") or " + no + ") and not " + no + ")", true);
        cond(x, 0, no + " or " + no + " or " + no + " and " + yes + " or " + no + " or " + yes, true);
    }

    private static void numbersTold() {
        LongStrike x = Checks.valley(1, 2);
        x.household(0, 0, 3, 0, 50);
        x.household(0, 1, 4, 0, 50);
        Checks.read(x, 0, "ticket 5 if mouths > 3; rank 2 if pit = 1; ticket 6; rank 4 if pit = 0; ticket 7; rank 0; relief 99;"
            + "quorum 33; quorum 44; evict 3;");
        Checks.read(x, 1, "ticket 77; rank 7; relief 8 if pit = 1; relief 9; quorum 7;");
        Checks.read(x, 2, "ticket 77; relief 98; rank 7; evict 4; evict 5; quorum 2; vote if pit = 5;");
        int[][] told = {{6, 4, 9, 1}, {5, 2, 8, 1}};
        for (int h = 0; h < 2; h++) {
            for (int what = 12; what < 16; what++) T.due("of(" + h + ", " + what + ")", x.of(h, what), told[h][what - 12]);
        }
        T.due("QUORUM: the union's first", x.rule(0), 33);
        T.due("EVICT: the company's first", x.rule(2), 4);
        for (int what : new int[] {-1, 3, MIN, MAX}) T.due("rule(" + what + ")", x.rule(what), -1);
        Checks.read(x, 0, "quorum 0; safety 5;");
        Checks.read(x, 2, "evict 0; safety 3;");
        T.due("QUORUM 0", x.rule(0), 0);
        T.due("EVICT 0", x.rule(2), 0);
        T.due("the company's is less", x.rule(1), 3);
        T.due("no ticket without a line", x.of(0, 12), 0);
        T.due("rank 9 without a line", x.of(0, 13), 9);
    }

    private static void whichLine() {
        LongStrike x = Checks.valley(1, 2);
        x.household(0, 0, 3, 0, 50);
        x.household(0, 1, 4, 0, 50);
        for (int what = 0; what < 3; what++) T.due("no line", x.why(0, what), -3);
        Checks.read(x, 0, "vote; ticket 5 if pit = 1; rank 3; ticket 0 if mouths = 3; relief 4; rank 1;");
        Checks.read(x, 1, "ticket 1; relief 0 if pit = 1;");
        T.due("the fourth line tells a ticket of 0", x.why(0, 0), 3);
        T.due("the second line", x.why(1, 0), 1);
        T.due("rank", x.why(1, 1), 2);
        T.due("relief: the county's", x.why(1, 2), 1);
        T.due("no relief line holds", x.why(0, 2), -3);
        int[][] wrong = {{-1, 0}, {2, 0}, {0, -1}, {0, 3}, {MIN, 0}, {0, MAX}};
        for (int[] w : wrong) T.due("why(" + w[0] + ", " + w[1] + ")", x.why(w[0], w[1]), -1);
    }

    private static void voting() {
        LongStrike x = Checks.valley(1, 2);
        x.household(0, 0, 3, 0, 50);
        x.household(0, 1, 3, 0, 50);
        Checks.read(x, 0, "ticket 3;");
        T.due("all may vote without a line", x.of(0, 15), 1);
        Checks.read(x, 0, "vote if pit = 1; vote if mouths = 9;");
        T.due("no line holds", x.of(0, 15), 0);
        T.due("a line holds", x.of(1, 15), 1);
        Checks.read(x, 0, "vote if pit = 1; vote if mouths = 3;");
        T.due("the second line holds", x.of(0, 15), 1);
        Checks.read(x, 0, "vote if pit = 1; vote;");
        T.due("a line without a condition", x.of(0, 15), 1);
    }
}
