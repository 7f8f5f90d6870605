/** Promises 19 to 23: news, the press, papers. */
public final class NewsTest {
    private static final Checks T = new Checks("NewsTest");
    private static final int MIN = Integer.MIN_VALUE, MAX = Integer.MAX_VALUE;

    public static void main(String[] args) {
        telling();
        hearing();
        roadsThatChange();
        whoHearsNothing();
        press();
        papers();
        evicting();
        voidPapers();
        whoIsBack();
        T.end();
    }

    private static void telling() {
        LongStrike x = new LongStrike();
        T.due("news without a village", x.news(0, 0), -1);
        x.village();
        int[][] wrong = {{-1, 0}, {1, 0}, {0, -21}, {0, 21}, {MIN, 0}, {0, MIN}, {0, MAX}};
        for (int[] w : wrong) T.due("wrong news", x.news(w[0], w[1]), -1);
        for (int i = 0; i < 12; i++) T.due("news", x.news(0, i % 2 == 0 ? -20 : 20), i);
        T.due("a thirteenth", x.news(0, 0), -2);
        T.due("a thirteenth that is wrong: BAD first", x.news(0, 21), -1);
        T.due("many(5)", x.many(5), 12);
    }

    private static void hearing() {
        LongStrike x = Checks.valley(3, 1);
        x.road(0, 1, 2);
        x.road(0, 2, 9);
        x.road(1, 2, 3);
        for (int v = 0; v < 3; v++) x.household(v, 0, 1, 1000, 50);
        x.days(1);
        x.news(0, 7);
        x.news(0, -3);
        x.news(1, 5);
        T.due("its own village: a day behind", x.hears(0, 0), 2);
        T.due("by road", x.hears(1, 0), 3);
        T.due("by its own road, not by way of others", x.hears(2, 0), 10);
        T.due("from the other", x.hears(0, 2), 3);
        T.due("from the other", x.hears(2, 2), 4);
        int[][] wrong = {{-1, 0}, {3, 0}, {0, -1}, {0, 3}, {MIN, 0}, {0, MAX}};
        for (int[] w : wrong) T.due("hears(" + w[0] + ", " + w[1] + ")", x.hears(w[0], w[1]), -1);
        T.due("nothing is heard today", x.of(0, 5), 51);
        x.days(1);
        T.due("two at once", x.of(0, 5), 52 + 7 - 3);
        T.due("its own", x.of(1, 5), 52 + 5);
        T.due("nothing yet", x.of(2, 5), 52);
        x.days(1);
        T.due("from the other", x.of(0, 5), 53 + 4 + 5);
        T.due("both", x.of(1, 5), 53 + 5 + 4);
        x.days(7);
        T.due("all, by their days", x.of(2, 5), 60 + 5 + 4);
        T.due("heard", x.hears(2, 0), 10);
        LongStrike y = Checks.valley(1, 1);
        y.household(0, 0, 1, 0, 20);
        y.household(0, 0, 1, 1000, 80);
        y.news(0, -20);
        y.news(0, 20);
        y.news(0, 20);
        y.days(1);
        T.due("all together", y.of(0, 5), 38);
        T.due("99 at most, all together", y.of(1, 5), 99);
        y.news(0, -20);
        y.news(0, -20);
        y.days(1);
        T.due("0 at least: back", y.of(0, 10), 1);
    }

    private static void roadsThatChange() {
        LongStrike x = Checks.valley(2, 1);
        x.household(1, 0, 1, 1000, 50);
        x.road(0, 1, 2);
        x.news(0, 10);
        x.days(2);
        T.due("heard", x.of(0, 5), 62);
        x.road(0, 1, 4);
        T.due("by roads as they are", x.hears(0, 0), 4);
        x.days(2);
        T.due("heard again", x.of(0, 5), 74);
        x.news(0, 10);
        x.road(0, 1, 3);
        x.days(2);
        x.road(0, 1, 2);
        T.due("it would have been today", x.hears(0, 1), 6);
        x.days(4);
        T.due("never heard", x.of(0, 5), 80);
    }

    private static void whoHearsNothing() {
        LongStrike x = Checks.valley(1, 1);
        x.household(0, 0, 1, 1000, 50);
        x.household(0, 0, 1, 1000, 50);
        Checks.read(x, 2, "evict 0;");
        x.paper(0);
        T.due("evicted", x.evict(0), 1);
        x.news(0, 10);
        x.days(1);
        T.due("evicted: hungry, and hears nothing", x.of(0, 5), 48);
        T.due("hears", x.of(1, 5), 61);
        T.due("the day is told all the same", x.hears(0, 0), 1);
    }

    private static void press() {
        LongStrike x = Checks.valley(1, 1);
        x.set(1, 1);
        x.gift(true, 5);
        x.gift(false, 7);
        T.due("nothing told yet", x.last(3), 0);
        T.due("the fund", x.press(true), 5);
        T.due("the stock isn't told by it", x.last(3), 0);
        T.due("the stock", x.press(false), 7);
        T.due("believed", x.last(3), 7);
        x.gift(false, 3);
        T.due("believed as it was told", x.last(3), 7);
        T.due("told anew", x.press(false), 10);
        T.due("believed anew", x.last(3), 10);
    }

    private static void papers() {
        LongStrike x = Checks.valley(1, 1);
        T.due("no household", x.paper(0), -1);
        x.household(0, 0, 1, 1000, 50);
        x.household(0, 0, 1, 1000, 50);
        for (int h : new int[] {-1, 2, MIN, MAX}) T.due("paper(" + h + ")", x.paper(h), -1);
        for (int p : new int[] {-1, 0, MIN, MAX}) T.due("evict(" + p + ") without papers", x.evict(p), -1);
        for (int i = 0; i < 12; i++) T.due("paper", x.paper(0), i);
        T.due("a thirteenth", x.paper(1), -2);
        T.due("a thirteenth that is wrong: BAD first", x.paper(2), -1);
        T.due("evict(12)", x.evict(12), -1);
        Checks.read(x, 2, "evict 0;");
        T.due("evicted by the fifth", x.evict(4), 1);
        T.due("STATE ahead of FULL", x.paper(0), -4);
        T.due("many(6)", x.many(6), 12);
    }

    private static void evicting() {
        LongStrike x = Checks.valley(1, 1);
        x.household(0, 0, 3, 3000, 50);
        x.days(3);
        x.paper(0);
        x.paper(0);
        Checks.read(x, 2, "evict 1;");
        T.due("too early", x.evict(0), 0);
        x.days(6);
        T.due("a day too early", x.evict(0), 0);
        T.due("nothing is so yet", x.of(0, 11), 0);
        T.due("the garden is there yet", x.of(0, 3), 3);
        x.days(1);
        T.due("on just that day", x.evict(0), 1);
        T.due("EVICTED", x.of(0, 11), 1);
        T.due("no garden", x.of(0, 3), 0);
        T.due("already", x.evict(0), -4);
        T.due("another paper of it", x.evict(1), -4);
        T.due("no paper for it", x.paper(0), -4);
        T.due("not back", x.of(0, 10), 0);
        x.days(1);
        T.due("hungry without a garden", x.of(0, 8), 1);
        LongStrike y = Checks.valley(1, 1);
        y.household(0, 0, 1, 1000, 50);
        y.paper(0);
        y.days(60);
        y.days(24);
        T.due("twelve weeks without a rule", y.evict(0), 1);
    }

    private static void voidPapers() {
        LongStrike x = Checks.valley(1, 1);
        x.household(0, 0, 1, 1000, 50);
        x.household(0, 0, 1, 1000, 50);
        x.paper(0);
        x.paper(1);
        x.days(8);
        Checks.read(x, 2, "evict 1;");
        T.due("a day too late", x.evict(0), 2);
        T.due("still", x.evict(0), 2);
        Checks.read(x, 2, "evict 2;");
        T.due("void whatever the rules say", x.evict(0), 2);
        T.due("one that nobody found void", x.evict(1), 0);
        x.days(6);
        T.due("void on the day of the new rule, too", x.evict(0), 2);
        T.due("the other one on that day", x.evict(1), 1);
        T.due("not evicted", x.of(0, 11), 0);
        T.due("a new paper", x.paper(0), 2);
        T.due("too early", x.evict(2), 0);
    }

    private static void whoIsBack() {
        LongStrike x = Checks.valley(1, 1);
        x.household(0, 0, 1, 0, 1);
        x.paper(0);
        x.paper(0);
        x.days(1);
        Checks.read(x, 2, "evict 0;");
        T.due("back", x.of(0, 10), 1);
        T.due("no paper for it", x.paper(0), -4);
        T.due("no eviction", x.evict(0), -4);
    }
}
