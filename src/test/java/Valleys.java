import java.util.function.Supplier;

/** Valleys to begin with; each stays far below 512 calls, so that some 240 more may follow. */
final class Valleys {
    /** Something of each thing, nothing full: people back, evicted, a pit lost, rows told, something kept. */
    static final Supplier<LongStrike> SOME = Valleys::some;
    /** All that has a limit is full, but THE FUND and STOCK. */
    static final Supplier<LongStrike> FULL = Valleys::full;
    static final Supplier<LongStrike> NEW = LongStrike::new;
    /** One village and one household in it, on day 999. */
    static final Supplier<LongStrike> LAST_DAY = Valleys::lastDay;

    private Valleys() {
    }

    /** So many villages, and so many pits in village 0 that are never lost. */
    static LongStrike of(int villages, int pits) {
        return Checks.valley(villages, pits);
    }

    /** One village, one pit, and a household with so many mouths, such a garden and coal, such a will. */
    static LongStrike home(int mouths, int how, int will) {
        LongStrike x = of(1, 1);
        x.household(0, 0, mouths, how, will);
        return x;
    }

    static int read(LongStrike x, int side, String text) {
        return Checks.read(x, side, text);
    }

    /** Days in steps that days() takes. */
    static void go(LongStrike x, int days) {
        for (int left = days; left > 0; left -= 60) x.days(Math.min(60, left));
    }

    private static LongStrike some() {
        LongStrike x = new LongStrike();
        for (int i = 0; i < 3; i++) x.village();
        x.road(0, 1, 2);
        x.road(1, 2, 9);
        x.pit(0, 10, 4, 200);
        x.pit(1, 20, 0, 30);
        x.shop(0, 20);
        x.shop(1, 5);
        x.household(0, 0, 3, 1150, 50);
        x.household(1, 1, 9, 0, 3);
        x.household(0, 1, 2, 2130, 60);
        x.household(2, 0, 4, 3000, 70);
        read(x, 0, "ticket 4 if mouths > 2; ticket 2; rank 1 if pit = 0; safety 2; quorum 30; vote if village < 2;");
        read(x, 1, "relief 1 if not owes = 0;");
        read(x, 2, "evict 1; safety 1;");
        x.news(0, 5);
        x.paper(2);
        x.paper(0);
        x.gift(true, 30);
        x.keep();
        x.days(7);
        x.evict(0);
        x.paper(3);
        x.news(1, -7);
        x.set(0, 1);
        x.set(1, 3);
        x.set(2, 5);
        x.set(10, 33);
        x.gift(false, 90);
        x.press(true);
        x.press(false);
        x.ship(9, 7);
        x.ship(30, 8);
        x.post(false, 1);
        x.post(false, 0);
        x.post(true, 0);
        x.post(true, 1);
        x.post(true, 2);
        x.clause(8);
        x.clause(9);
        x.worth(0, 0, 40);
        x.worth(1, 1, 60);
        x.sheet(0, 1, 7);
        x.put(0, 1, 1);
        x.put(0, 2, 3);
        x.put(0, 4, 9);
        x.sheet(1, 3, 4);
        x.put(1, 2, -77);
        x.sheet(2, 4, 0);
        x.shelf(0, 0, 2);
        x.shelf(1, 3, 1);
        x.shelf(2, 2, 1);
        x.watch(0);
        x.alterRow(1, 1, 3);
        x.deal(0, 2, 5);
        Checks.feed(x, "ticket 8; rank 1;");
        return x;
    }

    private static LongStrike full() {
        LongStrike x = new LongStrike();
        for (int i = 0; i < 6; i++) x.village();
        for (int a = 1; a < 6; a++) x.road(a, a - 1, a + 3);
        for (int i = 0; i < 4; i++) x.pit(i, 5 + i, 2, 900 + i);
        for (int i = 0; i < 4; i++) x.shop(i, 30 + i);
        for (int i = 0; i < 16; i++) x.household(i % 6, i % 4, 1 + i % 9, 570 * i, i == 4 ? 3 : 20 + 5 * i);
        read(x, 0, "ticket 5;rank 2;vote;vote;vote;vote;vote;vote;vote;safety 3;");
        read(x, 2, "safety 2; evict 1;");
        for (int i = 0; i < 12; i++) x.news(i % 6, i - 6);
        for (int i = 0; i < 12; i++) x.paper(i);
        for (int i = 0; i < 6; i++) x.ship(10 * i + 8, 100 + i);
        x.set(1, 20);
        x.gift(true, 400);
        x.gift(false, 700);
        x.press(true);
        for (int i = 0; i < 4; i++) x.post(false, i);
        for (int i = 0; i < 8; i++) x.post(true, i % 6);
        for (int i = 0; i < 9; i++) x.clause(10 + i);
        for (int i = 0; i < 9; i++) x.worth(i, i % 4, 20 + i);
        x.days(2);
        x.keep();
        x.days(5);
        x.evict(2);
        for (int i = 0; i < 4; i++) x.sheet(i, 1, 40);
        x.put(3, 2, 1);
        for (int i = 0; i < 4; i++) x.shelf(i, 0, i);
        x.watch(0);
        x.deal(1, 2, 3);
        for (int i = 0; i < 37; i++) x.feed(0x203B_6574_6F76_2020L, 8);
        x.feed(0x20202020L, 4);
        return x;
    }

    private static LongStrike lastDay() {
        LongStrike x = home(1, 1990, 50);
        go(x, 999);
        return x;
    }
}
