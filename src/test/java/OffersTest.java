/** Promises 33 to 36: clauses, worths, ballots, the least offer. */
public final class OffersTest {
    private static final Checks T = new Checks("OffersTest");
    private static final int MIN = Integer.MIN_VALUE, MAX = Integer.MAX_VALUE;

    public static void main(String[] args) {
        clauses();
        worths();
        content();
        wills();
        voters();
        quorum();
        leastOffer();
        nobody();
        allClauses();
        T.end();
    }

    private static void clauses() {
        LongStrike x = new LongStrike();
        for (int cost : new int[] {-1, 100, MIN, MAX}) T.due("clause(" + cost + ")", x.clause(cost), -1);
        for (int i = 0; i < 9; i++) T.due("a clause", x.clause(i == 0 ? 0 : 99), i);
        T.due("a tenth", x.clause(1), -2);
        T.due("a tenth that is wrong: BAD first", x.clause(100), -1);
        T.due("many(13)", x.many(13), 9);
        T.due("COST of all", x.ballot(511, 4), 8 * 99);
        T.due("COST of none", x.ballot(0, 4), 0);
    }

    private static void worths() {
        LongStrike x = Checks.valley(1, 2);
        T.due("no clause", x.worth(0, 0, 0), -1);
        x.clause(1);
        int[][] wrong = {{-1, 0, 0}, {1, 0, 0}, {0, -1, 0}, {0, 2, 0}, {0, 0, -1}, {0, 0, 100}, {MIN, 0, 0}, {0, MAX, 0}, {0, 0, MIN}};
        for (int[] w : wrong) T.due("a wrong worth", x.worth(w[0], w[1], w[2]), -1);
        T.due("0 at first", x.worth(0, 0, 99), 0);
        T.due("what it was", x.worth(0, 0, 7), 99);
        T.due("the other pit's", x.worth(0, 1, 0), 0);
        x.pit(0, 1, 1, 1);
        T.due("a later pit", x.worth(0, 2, 5), 0);
        T.due("what it was", x.worth(0, 2, 0), 5);
    }

    private static void content() {
        LongStrike x = Checks.valley(1, 3);
        x.clause(1);
        x.clause(2);
        x.worth(0, 0, 30);
        x.worth(1, 0, 20);
        x.worth(0, 1, 49);
        x.worth(1, 2, 99);
        T.due("none is content with nothing", x.ballot(0, 3), 0);
        T.due("30, 49 and 0", x.ballot(1, 3), 0);
        T.due("99 is enough", x.ballot(2, 3), 4);
        T.due("just 50 together, and 99", x.ballot(3, 3), 5);
        x.set(11, 49);
        T.due("just its want", x.ballot(1, 3), 2);
        x.set(10, 0);
        T.due("a want of 0", x.ballot(0, 3), 1);
        x.set(12, 100);
        T.due("1 too few", x.ballot(2, 3), 1);
        int[][] wrong = {{-1, 0}, {4, 0}, {0, -1}, {0, 5}, {MIN, 0}, {MAX, 0}, {0, MIN}, {7, 4}};
        for (int[] w : wrong) T.due("ballot(" + w[0] + ", " + w[1] + ")", x.ballot(w[0], w[1]), -1);
    }

    private static void wills() {
        LongStrike x = Checks.valley(1, 2);
        int[] wills = {0, 9, 10, 50, 90, 91, 99};
        for (int will : wills) x.household(0, 0, 1, 1000, will);
        x.clause(1);
        x.worth(0, 0, 50);
        T.due("yes: those below 10", x.ballot(0, 0), 2);
        T.due("no: all others", x.ballot(0, 1), 5);
        T.due("yes: all but those above 90", x.ballot(1, 0), 5);
        T.due("no: those above 90", x.ballot(1, 1), 2);
        T.due("carried", x.ballot(1, 2), 1);
        T.due("not carried", x.ballot(0, 2), 0);
        x.household(0, 1, 1, 1000, 50);
        T.due("another pit says no", x.ballot(1, 1), 3);
    }

    private static void voters() {
        LongStrike x = Checks.valley(1, 2);
        x.household(0, 0, 1, 0, 2);
        x.household(0, 0, 1, 1000, 50);
        x.household(0, 1, 2, 2000, 50);
        x.household(0, 1, 3, 3000, 50);
        x.days(1);
        T.due("back", x.of(0, 10), 1);
        T.due("who is back says nothing", x.ballot(0, 0), 0);
        T.due("no", x.ballot(0, 1), 3);
        Checks.read(x, 0, "vote if pit = 0; vote if mouths = 2;");
        T.due("who may vote", x.ballot(0, 1), 2);
        x.set(10, 0);
        T.due("yes", x.ballot(0, 0), 1);
        T.due("no", x.ballot(0, 1), 1);
        T.due("as many yes as no isn't carried", x.ballot(0, 2), 0);
        x.set(11, 0);
        T.due("yes", x.ballot(0, 0), 2);
        T.due("2 of 4 are 50 percents, the one that is back, too", x.ballot(0, 2), 1);
    }

    private static void quorum() {
        LongStrike x = Checks.valley(1, 1);
        x.set(10, 0);
        for (int i = 0; i < 3; i++) x.household(0, 0, i + 1, 9000, 50);
        Checks.read(x, 0, "vote if mouths < 3; quorum 66;");
        T.due("2 of 3 are more than 66 percents", x.ballot(0, 2), 1);
        Checks.read(x, 0, "vote if mouths < 3; quorum 67;");
        T.due("2 of 3 are less than 67 percents", x.ballot(0, 2), 0);
        Checks.read(x, 0, "quorum 100;");
        T.due("all", x.ballot(0, 2), 1);
        Checks.read(x, 0, "quorum 101;");
        T.due("more than all", x.ballot(0, 2), 0);
        Checks.read(x, 0, "vote if mouths = 1; quorum 0;");
        T.due("one is enough", x.ballot(0, 2), 1);
        Checks.read(x, 0, "vote if mouths = 9; quorum 0;");
        T.due("no votes: yes isn't more", x.ballot(0, 2), 0);
        Checks.read(x, 0, "vote if mouths = 1;");
        T.due("50 without a line", x.ballot(0, 2), 0);
    }

    private static void leastOffer() {
        LongStrike x = Checks.valley(1, 1);
        x.household(0, 0, 1, 9000, 50);
        int[] costs = {9, 3, 6, 9, 0};
        int[] worths = {50, 25, 25, 99, 0};
        for (int i = 0; i < 5; i++) {
            x.clause(costs[i]);
            x.worth(i, 0, worths[i]);
        }
        T.due("of equal cost the least as a number", x.offer(), 1);
        x.worth(0, 0, 49);
        T.due("two clauses ahead of a later one", x.offer(), 6);
        x.worth(1, 0, 24);
        T.due("the later one", x.offer(), 8);
        x.set(10, 900);
        T.due("none is enough", x.offer(), -3);
        x.set(10, 0);
        T.due("nothing at all", x.offer(), 0);
        x.set(10, 99);
        T.due("a clause for nothing isn't in it", x.offer(), 8);
        Checks.read(x, 0, "quorum 101;");
        T.due("nothing would be carried", x.offer(), -3);
    }

    private static void nobody() {
        LongStrike x = new LongStrike();
        T.due("no clauses, nobody", x.offer(), -3);
        T.due("ballot(0, 0)", x.ballot(0, 0), 0);
        T.due("ballot(0, 1)", x.ballot(0, 1), 0);
        T.due("ballot(0, 2)", x.ballot(0, 2), 0);
        T.due("ballot(1, 0)", x.ballot(1, 0), -1);
    }

    private static void allClauses() {
        LongStrike x = Checks.valley(1, 4);
        for (int i = 0; i < 16; i++) x.household(0, i % 4, 1, 1000, 50);
        for (int i = 0; i < 9; i++) {
            x.clause(9 - i);
            for (int p = 0; p < 4; p++) x.worth(i, p, 10 * ((i + p) % 4 + 1));
        }
        // worths of all together: 210, 220, 230, 240
        for (int p = 0; p < 4; p++) x.set(10 + p, 225);
        T.due("two pits with all of them", x.ballot(511, 3), 0b1100);
        T.due("half isn't more", x.offer(), -3);
        for (int p = 0; p < 4; p++) x.set(10 + p, 220);
        T.due("COST of all", x.ballot(511, 4), 45);
        T.due("all of them", x.ballot(511, 0), 12);
        T.due("nothing less is enough", x.offer(), 511);
    }
}
