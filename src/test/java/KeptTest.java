/** Promises 46 and 47: what is kept, and what becomes of it. */
public final class KeptTest {
    private static final Checks T = new Checks("KeptTest");

    public static void main(String[] args) {
        nothingKept();
        allThatIsKept();
        whatIsNotKept();
        theLatestStays();
        thingsThatAreGone();
        newOnesAreNew();
        waterDebtsAndShips();
        papers();
        T.end();
    }

    private static void nothingKept() {
        LongStrike x = new LongStrike();
        x.village();
        T.due("nothing is kept", x.again(), -3);
        T.due("nothing changed", x.many(1), 1);
        T.due("keep", x.keep(), 1);
        T.due("again", x.again(), 1);
        T.due("the same", x.many(1), 1);
    }

    private static LongStrike full() {
        LongStrike x = Checks.valley(2, 2);
        x.road(0, 1, 4);
        x.shop(0, 5);
        x.household(0, 0, 3, 1050, 40);
        x.household(1, 1, 2, 0, 1);
        x.household(0, 1, 2, 2000, 60);
        Checks.read(x, 0, "ticket 3 if mouths > 2; rank 4; quorum 30; safety 1;");
        Checks.read(x, 1, "relief 2;");
        Checks.read(x, 2, "evict 1; safety 1;");
        x.news(0, 5);
        x.paper(0);
        x.paper(2);
        x.days(7);
        x.evict(0);
        x.set(0, 1);
        x.set(1, 3);
        x.set(2, 5);
        x.set(10, 33);
        x.gift(true, 20);
        x.gift(false, 30);
        x.press(true);
        x.press(false);
        x.ship(30, 7);
        x.post(false, 1);
        x.post(true, 0);
        x.clause(8);
        x.worth(0, 0, 40);
        return x;
    }

    private static void disturb(LongStrike x) {
        x.village();
        x.road(0, 1, 9);
        x.road(0, 2, 9);
        x.pit(2, 5, 5, 5);
        x.shop(2, 9);
        x.household(2, 2, 1, 0, 9);
        Checks.read(x, 0, "vote if pit = 0; ticket 9; safety 3;");
        Checks.read(x, 1, "relief 9;");
        Checks.read(x, 2, "safety 5; evict 0;");
        x.news(1, -5);
        x.paper(3);
        x.evict(1);
        x.gift(true, 500);
        x.gift(false, 500);
        x.ship(40, 9);
        x.days(60);
        x.press(true);
        x.press(false);
        x.set(0, 0);
        x.set(1, 9);
        x.set(2, 9);
        x.set(10, 0);
        x.set(11, 0);
        x.post(false, 2);
        x.post(true, 2);
        x.worth(0, 0, 1);
        x.worth(0, 2, 77);
        x.clause(3);
    }

    private static int[] asked(LongStrike x) {
        try {
            java.util.List<Calls.Call> questions = Calls.questions();
            int[] answers = new int[questions.size()];
            for (int i = 0; i < answers.length; i++) answers[i] = questions.get(i).on(x);
            return answers;
        } catch (java.lang.reflect.InvocationTargetException e) {
            throw new IllegalStateException(e);
        }
    }

    private static void same(String when, int[] got, int[] want) {
        java.util.List<Calls.Call> questions = Calls.questions();
        for (int i = 0; i < want.length; i++) T.due(when + ": " + questions.get(i), got[i], want[i]);
    }

    private static void allThatIsKept() {
        LongStrike x = full();
        int[] before = asked(x);
        x.keep();
        same("keep() changes nothing", asked(x), before);
        disturb(x);
        int[] disturbed = asked(x);
        T.holds("disturbed", !java.util.Arrays.equals(before, disturbed));
        T.due("again", x.again(), 1);
        same("again", asked(x), before);
        T.due("COLD is kept", x.set(0, 0), 1);
        T.due("BURN is kept", x.set(1, 0), 3);
        T.due("MILES are kept", x.set(2, 0), 5);
        T.due("ROAD is kept", x.road(1, 0, 1), 4);
        T.due("WORTH is kept", x.worth(0, 0, 0), 40);
        LongStrike y = full();
        x.again();
        disturb(x);
        disturb(y);
        same("the same days again", asked(x), asked(y));
    }

    private static void whatIsNotKept() {
        LongStrike x = Checks.valley(1, 1);
        x.post(false, 0);
        x.post(true, 0);
        x.feed(0x20, 1);
        x.sheet(0, 2, 3);
        x.keep();
        x.feed(0x2020, 2);
        x.sheet(0, 0, 9);
        x.put(0, 0, 5);
        x.shelf(0, 2, 0);
        x.deal(0, 1, 3);
        x.watch(0);
        x.alterRow(0, 1, 3);
        T.due("again", x.again(), 1);
        T.due("THE TAPE stays", x.many(14), 3);
        T.due("SHEETS stay", x.item(0, 0, 0), 5);
        T.due("SHELVES stay", x.taken(0, 3), 0);
        T.due("THE TRACE stays", x.trace(0), 11);
        T.due("ROWS stay", x.row(0, 1), 3);
        T.due("and what their reader knows", x.judge(), 1);
    }

    private static void theLatestStays() {
        LongStrike x = new LongStrike();
        x.keep();
        x.village();
        x.keep();
        x.village();
        x.village();
        for (int i = 0; i < 3; i++) {
            T.due("again", x.again(), 1);
            T.due("the latest", x.many(1), 1);
            x.village();
            x.days(1);
        }
        x.again();
        T.due("the day, too", x.many(0), 0);
    }

    private static void thingsThatAreGone() {
        LongStrike x = Checks.valley(2, 1);
        x.shop(0, 1);
        x.household(0, 0, 1, 1000, 50);
        x.keep();
        x.household(0, 0, 2, 1000, 50);
        x.shop(0, 2);
        x.pit(0, 1, 1, 1);
        x.shelf(0, 0, 1);
        x.shelf(1, 1, 1);
        x.shelf(2, 2, 1);
        x.shelf(3, 0, 0);
        x.deal(0, 0, 0);
        x.again();
        for (int i = 0; i < 3; i++) {
            T.due("gone", x.taken(i, 0), -11);
            T.due("no deal with it", x.deal(i, 0, 5), 0);
            T.due("and no trace", x.many(15), 0);
        }
        T.due("still there", x.taken(3, 1), 0);
        x.household(1, 0, 7, 1000, 50);
        x.shop(1, 8);
        x.pit(1, 1, 1, 9);
        T.due("a new one of that number, too", x.taken(0, 1), 1);
        T.due("a deal with it", x.deal(0, 0, 5), 12 ^ 1);
        T.due("a deal with the shop", x.deal(1, 0, 5), 13);
        T.due("a deal with the pit", x.deal(2, 0, 5), 14);
    }

    private static void newOnesAreNew() {
        LongStrike x = Checks.valley(1, 1);
        x.clause(1);
        x.keep();
        x.village();
        x.road(0, 1, 7);
        x.pit(0, 50, 0, 1);
        x.set(11, 9);
        x.worth(0, 1, 9);
        x.clause(5);
        x.worth(1, 0, 9);
        x.shop(0, 5);
        x.household(0, 0, 9, 90, 4);
        Checks.read(x, 1, "relief 5;");
        Checks.read(x, 2, "evict 0;");
        x.paper(0);
        T.due("evicted", x.evict(0), 1);
        x.days(7);
        x.again();
        x.village();
        T.due("a new road", x.road(0, 1, 1), 1);
        x.pit(0, 1, 0, 9);
        T.due("a new pit", x.pitOf(1, 2), -3);
        T.due("its water", x.pitOf(1, 1), 0);
        T.due("its want", x.pitOf(1, 3), 50);
        T.due("its worth", x.worth(0, 1, 1), 0);
        x.clause(3);
        T.due("a new clause", x.worth(1, 0, 1), 0);
        x.shop(0, 5);
        T.due("a new shop", x.shopOf(0, 2), 0);
        x.household(0, 0, 2, 1000, 50);
        int[] of = {0, 0, 2, 1, 0, 50, 0, 0, 0, 0, 0, 0};
        for (int what = 0; what < of.length; what++) T.due("a new household: " + what, x.of(0, what), of[what]);
        x.paper(0);
        T.due("a new paper isn't void", x.evict(0), 0);
    }

    private static void waterDebtsAndShips() {
        LongStrike x = new LongStrike();
        x.village();
        x.pit(0, 5, 0, 10);
        x.shop(0, 9);
        x.household(0, 0, 2, 0, 30);
        x.ship(3, 50);
        x.ship(4, 60);
        x.gift(true, 7);
        Checks.read(x, 0, "ticket 7;");
        x.press(true);
        x.days(1);
        int[] before = asked(x);
        x.keep();
        x.days(9);
        x.press(true);
        T.due("lost", x.pitOf(0, 2), 3);
        T.due("owes", x.of(0, 7), 9);
        T.due("ships have come", x.many(7), 0);
        x.ship(12, 70);
        x.again();
        same("again", asked(x), before);
        x.days(2);
        T.due("the first ship comes again", x.many(9), 50);
        x.days(1);
        T.due("the second ship comes again", x.many(9), 110);
        x.days(10);
        T.due("the third one was never kept", x.many(9), 110);
    }

    private static void papers() {
        LongStrike x = Checks.valley(1, 1);
        x.household(0, 0, 1, 3000, 50);
        x.household(0, 0, 1, 3000, 50);
        x.paper(0);
        x.paper(1);
        x.days(7);
        x.keep();
        Checks.read(x, 2, "evict 1;");
        T.due("evicted", x.evict(0), 1);
        Checks.read(x, 2, "evict 0;");
        T.due("void", x.evict(1), 2);
        x.again();
        T.due("not evicted", x.of(0, 11), 0);
        T.due("its garden", x.of(0, 3), 3);
        Checks.read(x, 2, "evict 1;");
        T.due("not void", x.evict(1), 1);
        T.due("evicted again", x.evict(0), 1);
    }
}
