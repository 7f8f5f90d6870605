/** Promises 24 to 26: what each would draw, the least gift, and how long both sides last. */
public final class LastingTest {
    private static final Checks T = new Checks("LastingTest");
    private static final int MIN = Integer.MIN_VALUE, MAX = Integer.MAX_VALUE;

    public static void main(String[] args) {
        draws();
        leastGift();
        valleyLasts();
        valleyByItsRules();
        valleyAsBelieved();
        companyLasts();
        changesNothing();
        T.end();
    }

    private static void draws() {
        LongStrike x = Checks.valley(1, 1);
        for (int i = 0; i < 4; i++) x.household(0, 0, i + 1, i == 3 ? 0 : 9000, i == 3 ? 1 : 50);
        T.due("no ticket", x.draws(0), 0);
        Checks.read(x, 0, "ticket 10 if mouths = 1; ticket 20; rank 0 if mouths = 1; rank 1;");
        T.due("an empty fund", x.draws(0), 0);
        x.gift(true, 9);
        T.due("less than its ticket", x.draws(0), 9);
        T.due("later ranks draw nothing", x.draws(1), 0);
        x.gift(true, 1);
        T.due("just its ticket", x.draws(0), 10);
        x.gift(true, 50);
        T.due("a part: 16 and one more", x.draws(1), 17);
        T.due("a part: 16 and one more", x.draws(2), 17);
        T.due("a part: 16", x.draws(3), 16);
        x.days(1);
        T.due("back", x.of(3, 10), 1);
        T.due("back: nothing", x.draws(3), 0);
        T.due("enough for the others", x.draws(1), 20);
        T.due("a ticket by rules alone, back or not", x.of(3, 12), 20);
        for (int h : new int[] {-1, 4, MIN, MAX}) T.due("draws(" + h + ")", x.draws(h), -1);
        T.due("nothing is drawn by asking", x.many(8), 60);
        Checks.read(x, 0, "");
        T.due("no ticket any more", x.draws(1), 0);
        LongStrike w = Checks.valley(1, 1);
        for (int i = 0; i < 3; i++) w.household(0, 0, i + 1, 9000, 50);
        Checks.read(w, 0, "ticket 5;");
        w.gift(true, 8);
        int[] parts = {3, 3, 2};
        for (int i = 0; i < 3; i++) T.due("what is left goes by numbers: " + i, w.draws(i), parts[i]);
        LongStrike y = Checks.valley(1, 1);
        for (int i = 0; i < 3; i++) y.household(0, 0, i + 1, 9000, 50);
        Checks.read(y, 0, "ticket 0 if mouths = 1; ticket 999 if mouths = 2; ticket 1;");
        y.gift(true, 999);
        T.due("who wants nothing gets nothing", y.draws(0), 0);
        T.due("998.001 of 999, and the one left", y.draws(1), 999);
        T.due("0.999 of 1", y.draws(2), 0);
    }

    private static void leastGift() {
        LongStrike x = Checks.valley(1, 1);
        for (int i = 0; i < 4; i++) x.household(0, 0, i + 1, i == 3 ? 0 : 9000, i == 3 ? 1 : 50);
        Checks.read(x, 0, "ticket 10; rank 2 if mouths = 1; rank 5 if mouths = 2;");
        int[] due = {0, 0, 10, 10, 10, 20, 20, 20, 20, 40};
        for (int n = 0; n <= 9; n++) T.due("least(" + n + ")", x.least(n), due[n]);
        x.gift(true, 15);
        T.due("enough", x.least(2), 0);
        T.due("5 lack", x.least(5), 5);
        T.due("25 lack", x.least(9), 25);
        x.days(1);
        T.due("who is back isn't counted", x.least(9), 15);
        x.gift(true, 15);
        T.due("just enough", x.least(9), 0);
        for (int n : new int[] {-1, 10, MIN, MAX}) T.due("least(" + n + ")", x.least(n), -1);
        T.due("least of nobody", new LongStrike().least(9), 0);
    }

    private static void valleyLasts() {
        LongStrike x = Checks.valley(1, 1);
        T.due("nobody can't be fewer than half", x.last(0), 120);
        x.household(0, 0, 1, 0, 10);
        T.due("5 hungry days", x.last(0), 5);
        x.household(0, 0, 1, 1000, 10);
        T.due("half are not fewer than half", x.last(0), 120);
        x.household(0, 0, 1, 0, 20);
        T.due("the second to go", x.last(0), 10);
        x.days(9);
        T.due("tomorrow", x.last(0), 1);
        x.days(1);
        T.due("now", x.last(0), 0);
        T.due("nothing was told: as if the fund were 0", x.last(2), 0);
        x.days(1);
        T.due("0 stays 0", x.last(0), 0);
        for (int what : new int[] {-1, 4, MIN, MAX}) T.due("last(" + what + ")", x.last(what), -1);
        LongStrike y = Checks.valley(1, 1);
        y.household(0, 0, 1, 1000, 99);
        y.household(0, 0, 2, 1500, 99);
        y.set(0, 1);
        for (int i = 0; i < 16; i++) y.days(60);
        T.due("beyond 999, too: day 960", y.many(0), 960);
        LongStrike z = Checks.valley(1, 1);
        for (int i = 0; i < 16; i++) z.days(60);
        z.days(39);
        z.household(0, 0, 1, 0, 99);
        T.due("50 days from day 999", z.last(0), 50);
    }

    private static void valleyByItsRules() {
        LongStrike x = Checks.valley(1, 1);
        x.shop(0, 4);
        x.household(0, 0, 1, 20, 6);
        x.set(0, 1);
        // days 1, 2: fed on credit, warm (7, 8); 3, 4: fed, cold (7, 6); then 3 less a day: 3, 0
        T.due("credit and coal", x.last(0), 6);
        Checks.read(x, 1, "relief 2 if owes > 3;");
        T.due("relief comes too late", x.last(0), 6);
        x.days(1);
        T.due("a day less", x.last(0), 5);
        LongStrike y = Checks.valley(1, 1);
        y.household(0, 0, 1, 990, 20);
        Checks.read(y, 0, "ticket 7;");
        y.gift(true, 10);
        // 6 hungry days: 8; day 7 to 13 fed: 15; 3 of the fund on day 14: 18; then 2 less a day: 9 days more
        T.due("by the fund", y.last(0), 25);
        y.news(0, -20);
        T.due("without news", y.last(0), 25);
        y.pit(0, 50, 0, 1);
        T.due("without water", y.last(0), 25);
        Checks.read(y, 0, "ticket 7 if hungry > 6;");
        T.due("six hungry days by day 7: no ticket", y.last(0), 10);
        Checks.read(y, 0, "ticket 7 if hungry > 5;");
        T.due("six hungry days by day 7: a ticket", y.last(0), 25);
        LongStrike w = Checks.valley(3, 2);
        w.shop(1, 3);
        w.shop(2, 6);
        w.household(2, 1, 1, 990, 4);
        w.household(1, 0, 1, 990, 4);
        w.household(0, 1, 1, 1990, 4);
        // 6 days on credit: 10, then 5 hungry ones; the other goes earlier: 3 days, 7, and 4 hungry ones
        T.due("shops by their villages", w.last(0), 11);
        Checks.read(w, 1, "relief 2 if village = 2; relief 50 if village = 0;");
        // day 8: 12, day 13: 2, fed again on days 14 and 15: 4
        T.due("relief by village", w.last(0), 17);
        Checks.read(w, 1, "");
        w.gift(true, 3);
        Checks.read(w, 0, "ticket 3 if pit = 1 and mouths = 1; rank 1 if village = 0; rank 0;");
        T.due("tickets by pit", w.last(0), 6 + 3 + 7);
        LongStrike z = Checks.valley(1, 1);
        z.household(0, 0, 1, 1990, 10);
        Checks.read(z, 2, "evict 0;");
        z.paper(0);
        T.due("without papers", z.last(0), 120);
    }

    private static void valleyAsBelieved() {
        LongStrike x = Checks.valley(1, 1);
        x.household(0, 0, 1, 990, 20);
        Checks.read(x, 0, "ticket 7;");
        x.gift(true, 7);
        T.due("as it is", x.last(0), 6 + 7 + 8);
        T.due("nothing told", x.last(2), 10);
        x.press(true);
        T.due("told", x.last(2), 21);
        x.gift(true, 7);
        T.due("as it was told", x.last(2), 21);
        T.due("as it is", x.last(0), 6 + 7 + 7 + 11);
        x.press(false);
        T.due("the press of the stock is another", x.last(2), 21);
    }

    private static void companyLasts() {
        LongStrike x = new LongStrike();
        T.due("no stock", x.last(1), 0);
        x.gift(false, 100);
        T.due("nothing burns", x.last(1), 120);
        x.set(1, 10);
        T.due("10 days", x.last(1), 10);
        x.set(1, 11);
        T.due("the last day isn't full", x.last(1), 10);
        x.ship(10, 1);
        T.due("a ship on the last day", x.last(1), 11);
        x.ship(12, 500);
        T.due("a ship too late", x.last(1), 11);
        x.ship(11, 11);
        T.due("two ships", x.last(1), 12 + 46);
        x.press(false);
        T.due("the valley doesn't hear of ships", x.last(3), 10);
        x.days(1);
        T.due("as told then", x.last(3), 10);
        T.due("a day less", x.last(1), 57);
        x.gift(false, 9999);
        T.due("120 at most", x.last(1), 120);
        LongStrike y = new LongStrike();
        y.gift(false, 119);
        y.set(1, 1);
        T.due("119", y.last(1), 119);
        y.gift(false, 1);
        T.due("120", y.last(1), 120);
        y.gift(false, 1);
        T.due("120 at most", y.last(1), 120);
        y.press(false);
        T.due("120 at most", y.last(3), 120);
        LongStrike z = new LongStrike();
        for (int i = 0; i < 16; i++) z.days(60);
        z.days(39);
        z.gift(false, 50);
        z.set(1, 1);
        T.due("beyond 999", z.last(1), 50);
    }

    private static void changesNothing() {
        LongStrike x = Checks.valley(1, 1);
        x.shop(0, 9);
        x.household(0, 0, 2, 30, 9);
        Checks.read(x, 0, "ticket 3;");
        x.gift(true, 20);
        x.gift(false, 30);
        x.set(1, 4);
        x.ship(3, 3);
        for (int what = 0; what < 4; what++) x.last(what);
        int[] of = {0, 0, 2, 0, 3, 9, 0, 0, 0, 0, 0, 0};
        for (int what = 0; what < of.length; what++) T.due("of(0, " + what + ")", x.of(0, what), of[what]);
        T.due("today", x.many(0), 0);
        T.due("the fund", x.many(8), 20);
        T.due("the stock", x.many(9), 30);
        T.due("ships", x.many(7), 1);
        T.due("lent", x.shopOf(0, 2), 0);
    }
}
