/** Promises 1 to 13: the valley. */
public final class ValleyTest {
    private static final Checks T = new Checks("ValleyTest");
    private static final int MIN = Integer.MIN_VALUE, MAX = Integer.MAX_VALUE;

    public static void main(String[] args) {
        newObject();
        days();
        villagesAndRoads();
        pits();
        shops();
        households();
        water();
        foreseenWater();
        meals();
        coldAndWill();
        goingBack();
        sharing();
        larder();
        settings();
        gifts();
        ships();
        T.end();
    }

    private static void newObject() {
        LongStrike x = new LongStrike();
        for (int what = 0; what <= 16; what++) T.due("many(" + what + ") of a new one", x.many(what), 0);
        T.due("many(17)", x.many(17), -1);
        T.due("many(-1)", x.many(-1), -1);
        T.due("again() of a new one", x.again(), -3);
        T.due("judge() of a new one", x.judge(), -3);
        T.due("trace(0) of a new one", x.trace(0), -3);
        T.due("dropRow() of a new one", x.dropRow(), -3);
        T.due("row(0, 0) of a new one", x.row(0, 0), -9);
        for (int i = 0; i < 4; i++) {
            T.due("a new sheet", x.item(i, 2, 0), -11);
            T.due("a new shelf", x.taken(i, 0), -11);
        }
        for (int side = 0; side < 3; side++) T.due("new rules", x.line(side, 0, 0), -9);
        T.due("QUORUM without", x.rule(0), 50);
        T.due("SAFETY without", x.rule(1), 0);
        T.due("EVICT without", x.rule(2), 12);
        x.village();
        x.pit(0, 1, 1, 1);
        x.household(0, 0, 1, 0, 1);
        T.due("a shelf holds nothing till it is told", x.taken(0, 0), -11);
        T.due("COLD at first", x.set(0, 0), 0);
        T.due("BURN at first", x.set(1, 0), 0);
        T.due("MILES at first", x.set(2, 9), 9);
    }

    private static void days() {
        LongStrike x = new LongStrike();
        for (int n : new int[] {0, -1, 61, MIN, MAX}) T.due("days(" + n + ")", x.days(n), -1);
        T.due("many(0)", x.many(0), 0);
        T.due("days(1)", x.days(1), 1);
        for (int i = 1; i <= 16; i++) T.due("days(60)", x.days(60), 1 + 60 * i);
        T.due("days(39) from 961", x.days(39), -4);
        T.due("days(61) from 961: BAD first", x.days(61), -1);
        T.due("many(0)", x.many(0), 961);
        T.due("days(38) from 961", x.days(38), 999);
        T.due("days(1) from 999", x.days(1), -4);
        T.due("many(0)", x.many(0), 999);
    }

    private static void villagesAndRoads() {
        LongStrike x = new LongStrike();
        T.due("road without villages", x.road(0, 1, 1), -1);
        for (int i = 0; i < 6; i++) T.due("village", x.village(), i);
        T.due("a seventh village", x.village(), -2);
        T.due("many(1)", x.many(1), 6);
        for (int a = 0; a < 6; a++) {
            for (int b = 0; b < a; b++) T.due("road at first", x.road(a, b, (a + b) % 9 + 1), 1);
        }
        for (int a = 0; a < 6; a++) {
            for (int b = 0; b < a; b++) T.due("road the other way", x.road(b, a, 1), (a + b) % 9 + 1);
        }
        T.due("road to itself", x.road(2, 2, 1), -1);
        int[][] wrong = {{-1, 0, 1}, {0, -1, 1}, {6, 0, 1}, {0, 6, 1}, {0, 1, 0}, {0, 1, 10}, {MIN, 1, 1}, {0, MAX, 1}, {0, 1, MIN}};
        for (int[] w : wrong) T.due("a wrong road", x.road(w[0], w[1], w[2]), -1);
        T.due("wrong ones changed nothing", x.road(0, 1, 9), 1);
        T.due("the longest", x.road(1, 0, 1), 9);
    }

    private static void pits() {
        LongStrike x = new LongStrike();
        T.due("a pit without a village", x.pit(0, 1, 0, 1), -1);
        x.village();
        x.village();
        int[][] wrong = {{-1, 1, 0, 1}, {2, 1, 0, 1}, {0, 0, 0, 1}, {0, 51, 0, 1}, {0, 1, -1, 1}, {0, 1, 51, 1}, {0, 1, 0, 0},
            {0, 1, 0, 10000}, {MAX, 1, 0, 1}, {0, MIN, 0, 1}, {0, 1, MAX, 1}, {0, 1, 0, MIN}};
        for (int[] w : wrong) T.due("a wrong pit", x.pit(w[0], w[1], w[2], w[3]), -1);
        T.due("many(2)", x.many(2), 0);
        T.due("pitOf without", x.pitOf(0, 0), -1);
        T.due("the least pit", x.pit(1, 1, 0, 1), 0);
        T.due("the most pit", x.pit(0, 50, 50, 9999), 1);
        T.due("a pit", x.pit(1, 1, 1, 1), 2);
        T.due("a pit", x.pit(1, 1, 1, 1), 3);
        T.due("a fifth pit", x.pit(1, 1, 1, 1), -2);
        T.due("a fifth pit that is wrong: BAD first", x.pit(2, 1, 1, 1), -1);
        T.due("many(2)", x.many(2), 4);
        T.due("VILLAGE", x.pitOf(0, 0), 1);
        T.due("VILLAGE", x.pitOf(1, 0), 0);
        T.due("WATER at first", x.pitOf(1, 1), 0);
        T.due("not LOST", x.pitOf(1, 2), -3);
        T.due("WANT at first", x.pitOf(1, 3), 50);
        T.due("pitOf(-1, 0)", x.pitOf(-1, 0), -1);
        T.due("pitOf(4, 0)", x.pitOf(4, 0), -1);
        T.due("pitOf(0, -1)", x.pitOf(0, -1), -1);
        T.due("pitOf(0, 5)", x.pitOf(0, 5), -1);
    }

    private static void shops() {
        LongStrike x = new LongStrike();
        T.due("a shop without a village", x.shop(0, 1), -1);
        x.village();
        x.village();
        int[][] wrong = {{-1, 1}, {2, 1}, {0, -1}, {0, 1000}, {MIN, 1}, {0, MAX}};
        for (int[] w : wrong) T.due("a wrong shop", x.shop(w[0], w[1]), -1);
        T.due("shopOf without", x.shopOf(0, 0), -1);
        T.due("a shop", x.shop(1, 0), 0);
        T.due("a shop", x.shop(0, 999), 1);
        T.due("a shop", x.shop(0, 1), 2);
        T.due("a shop", x.shop(0, 1), 3);
        T.due("a fifth shop", x.shop(0, 1), -2);
        T.due("a fifth shop that is wrong: BAD first", x.shop(0, 1000), -1);
        T.due("VILLAGE", x.shopOf(0, 0), 1);
        T.due("CREDIT", x.shopOf(1, 1), 999);
        T.due("CREDIT", x.shopOf(0, 1), 0);
        T.due("lent", x.shopOf(1, 2), 0);
        T.due("shopOf(-1, 0)", x.shopOf(-1, 0), -1);
        T.due("shopOf(4, 0)", x.shopOf(4, 0), -1);
        T.due("shopOf(0, -1)", x.shopOf(0, -1), -1);
        T.due("shopOf(0, 3)", x.shopOf(0, 3), -1);
    }

    private static void households() {
        LongStrike x = Checks.valley(2, 2);
        int[][] wrong = {{-1, 0, 1, 0, 0}, {2, 0, 1, 0, 0}, {0, -1, 1, 0, 0}, {0, 2, 1, 0, 0}, {0, 0, 0, 0, 0}, {0, 0, 10, 0, 0},
            {0, 0, 1, -1, 0}, {0, 0, 1, 10000, 0}, {0, 0, 1, 0, -1}, {0, 0, 1, 0, 100}, {MIN, MIN, MIN, MIN, MIN},
            {MAX, MAX, MAX, MAX, MAX}};
        for (int[] w : wrong) T.due("a wrong household", x.household(w[0], w[1], w[2], w[3], w[4]), -1);
        T.due("of without", x.of(0, 0), -1);
        T.due("a household", x.household(1, 0, 9, 9999, 99), 0);
        int[] first = {1, 0, 9, 9, 99, 99, 0, 0, 0, 0, 0, 0, 0, 9, 0, 1};
        for (int what = 0; what < 16; what++) T.due("of(0, " + what + ")", x.of(0, what), first[what]);
        T.due("a household", x.household(0, 1, 1, 1237, 0), 1);
        int[] second = {0, 1, 1, 1, 23, 0, 0, 0, 0, 0, 0, 0, 0, 9, 0, 1};
        for (int what = 0; what < 16; what++) T.due("of(1, " + what + ")", x.of(1, what), second[what]);
        T.due("of(0, 16)", x.of(0, 16), -1);
        T.due("of(0, -1)", x.of(0, -1), -1);
        T.due("of(-1, 0)", x.of(-1, 0), -1);
        T.due("of(2, 0)", x.of(2, 0), -1);
        for (int i = 2; i < 16; i++) T.due("a household", x.household(0, 0, 1, 9, 1), i);
        T.due("the last digit counts nothing", x.of(15, 4), 0);
        T.due("a seventeenth", x.household(0, 0, 1, 0, 1), -2);
        T.due("a seventeenth that is wrong: BAD first", x.household(0, 2, 1, 0, 1), -1);
        T.due("many(4)", x.many(4), 16);
    }

    private static void water() {
        LongStrike x = new LongStrike();
        x.village();
        x.pit(0, 10, 4, 12);
        x.pit(0, 5, 5, 4);
        Checks.read(x, 0, "safety 1; safety 9;");
        Checks.read(x, 2, "safety 2;");
        T.due("the lesser safety", x.rule(1), 1);
        x.days(1);
        T.due("10 in, 4 out", x.pitOf(0, 1), 6);
        T.due("never below 0", x.pitOf(1, 1), 0);
        x.days(1);
        T.due("12 is not above 12", x.pitOf(0, 2), -3);
        T.due("water 12", x.pitOf(0, 1), 12);
        Checks.read(x, 0, "");
        T.due("no safety without the union's line", x.rule(1), 0);
        x.days(1);
        T.due("22 is above 12", x.pitOf(0, 2), 3);
        T.due("5 is above 4 on the day itself", x.pitOf(1, 2), 3);
        x.days(5);
        T.due("its water stays", x.pitOf(0, 1), 22);
        T.due("lost for good, on that day", x.pitOf(0, 2), 3);
        Checks.read(x, 0, "safety 999;");
        Checks.read(x, 2, "safety 999;");
        x.days(2);
        T.due("its water stays, pumped or not", x.pitOf(0, 1), 22);
        T.due("lost for good", x.pitOf(0, 2), 3);
        LongStrike y = new LongStrike();
        y.village();
        y.pit(0, 10, 4, 999);
        Checks.read(y, 2, "safety 3;");
        T.due("no safety by the company alone", y.rule(1), 0);
        Checks.read(y, 0, "safety 2;");
        T.due("both", y.rule(1), 2);
        Checks.read(y, 2, "evict 3;");
        T.due("no safety by the union alone", y.rule(1), 0);
        Checks.read(y, 1, "safety 3;");
        T.due("the county tells no safety", y.rule(1), 0);
    }

    private static void foreseenWater() {
        LongStrike x = new LongStrike();
        x.village();
        x.pit(0, 1, 0, 499);
        x.pit(0, 1, 0, 500);
        x.pit(0, 1, 0, 501);
        x.pit(0, 50, 0, 49);
        T.due("499 days", x.pitOf(0, 4), 499);
        T.due("500 days", x.pitOf(1, 4), 500);
        T.due("500 at most", x.pitOf(2, 4), 500);
        T.due("lost tomorrow", x.pitOf(3, 4), 0);
        x.days(1);
        T.due("lost", x.pitOf(3, 2), 1);
        T.due("lost: 0", x.pitOf(3, 4), 0);
        T.due("one day less", x.pitOf(0, 4), 498);
        T.due("foreseeing changes nothing", x.pitOf(0, 1), 1);
        Checks.read(x, 0, "safety 1;");
        Checks.read(x, 2, "safety 1;");
        LongStrike y = new LongStrike();
        y.village();
        y.pit(0, 3, 2, 10);
        Checks.read(y, 0, "safety 1;");
        Checks.read(y, 2, "safety 1;");
        T.due("by rules of today", y.pitOf(0, 4), 10);
        Checks.read(y, 2, "safety 0;");
        T.due("by other rules of today", y.pitOf(0, 4), 3);
    }

    private static void meals() {
        LongStrike x = Checks.valley(2, 1);
        x.shop(0, 4);
        x.shop(1, 9);
        x.shop(0, 3);
        x.household(0, 0, 5, 9000, 50);
        x.household(0, 0, 5, 2000, 50);
        x.household(0, 0, 6, 0, 50);
        x.household(1, 0, 9, 0, 50);
        x.days(1);
        T.due("a garden that is too large", x.of(0, 6), 0);
        T.due("who has a garden owes nothing", x.of(0, 7), 0);
        T.due("3 from the first shop", x.of(1, 7), 3);
        T.due("1 from the first shop, 3 from the next one there", x.of(2, 7), 4);
        T.due("no shop of another village", x.shopOf(1, 2), 9);
        T.due("the whole credit of the first", x.shopOf(0, 2), 4);
        T.due("the whole credit of the third", x.shopOf(2, 2), 3);
        T.due("not hungry", x.of(1, 8), 0);
        T.due("hungry", x.of(2, 8), 1);
        T.due("the very last meal is enough", x.of(3, 8), 0);
        T.due("will of the fed", x.of(0, 5), 51);
        T.due("will of the hungry", x.of(2, 5), 48);
        x.days(2);
        T.due("hungry days", x.of(2, 8), 3);
        T.due("hungry from then on", x.of(1, 8), 2);
        T.due("no more is lent than the credit", x.shopOf(0, 2), 4);
    }

    private static void coldAndWill() {
        LongStrike x = Checks.valley(1, 1);
        x.household(0, 0, 1, 1020, 98);
        x.household(0, 0, 1, 20, 50);
        x.days(1);
        T.due("coal is burnt without cold, too", x.of(0, 4), 1);
        T.due("will up to 99", x.of(0, 5), 99);
        x.set(0, 1);
        x.days(1);
        T.due("coal keeps warm", x.of(0, 9), 0);
        T.due("99 at most", x.of(0, 5), 99);
        T.due("the last coal", x.of(0, 4), 0);
        x.days(1);
        T.due("a cold day", x.of(0, 9), 1);
        T.due("1 less, and no more for being fed", x.of(0, 5), 98);
        T.due("hungry and cold: 3 less", x.of(1, 5), 50 - 2 - 2 - 3);
        x.set(0, 0);
        x.days(1);
        T.due("no cold is told", x.of(0, 9), 1);
        T.due("will again", x.of(0, 5), 99);
        T.due("hungry alone", x.of(1, 5), 41);
        T.due("cold days stay", x.of(1, 9), 1);
    }

    private static void goingBack() {
        LongStrike x = Checks.valley(1, 1);
        x.household(0, 0, 1, 50, 3);
        x.household(0, 0, 1, 1050, 0);
        x.household(0, 0, 1, 50, 0);
        Checks.read(x, 1, "relief 9;");
        T.due("will 0 isn't back by itself", x.of(2, 10), 0);
        x.days(1);
        T.due("will 1", x.of(0, 5), 1);
        T.due("not back", x.of(0, 10), 0);
        T.due("will 0 may rise", x.of(1, 5), 1);
        T.due("not back", x.of(1, 10), 0);
        T.due("back", x.of(2, 10), 1);
        x.days(1);
        T.due("0 at least", x.of(0, 5), 0);
        T.due("back", x.of(0, 10), 1);
        T.due("many(16)", x.many(16), 2);
        x.news(0, 20);
        x.days(5);
        T.due("back for good", x.of(0, 10), 1);
        T.due("hears nothing", x.of(0, 5), 0);
        T.due("coal stays", x.of(0, 4), 3);
        T.due("no more hungry days", x.of(0, 8), 2);
        T.due("no relief", x.of(0, 6), 0);
        T.due("relief for who isn't back", x.of(1, 6), 9);
        T.due("its relief is told all the same", x.of(0, 14), 9);
    }

    private static void sharing() {
        LongStrike x = Checks.valley(1, 2);
        for (int i = 0; i < 5; i++) x.household(0, i == 0 ? 1 : 0, i + 1, 9990, 50);
        Checks.read(x, 0, "rank 3 if pit = 1; rank 1; ticket 2 if mouths = 2; ticket 7 if mouths > 2; ticket 5;");
        x.gift(true, 20);
        // rank 1: tickets 2, 7, 7, 7 of 20: 1, 6, 6, 6 and one more for the first that wants
        int[] drawn = {0, 2, 6, 6, 6};
        for (int i = 0; i < 5; i++) T.due("draws(" + i + ")", x.draws(i), drawn[i]);
        x.days(6);
        T.due("shared on no other day", x.many(8), 20);
        x.days(1);
        T.due("the fund is used up", x.many(8), 0);
        for (int i = 0; i < 5; i++) T.due("larder " + i, x.of(i, 6), drawn[i]);
        x.gift(true, 27);
        x.days(7);
        T.due("rank 3 has the rest", x.of(0, 6), 4);
        T.due("rank 1 has all", x.of(1, 6), 4);
        T.due("rank 1 has all", x.of(4, 6), 13);
        T.due("the fund", x.many(8), 0);
        x.gift(true, 99);
        x.days(7);
        T.due("more than enough", x.many(8), 99 - 28);
        T.due("all of it", x.of(0, 6), 9);
    }

    private static void larder() {
        LongStrike x = Checks.valley(1, 1);
        x.household(0, 0, 2, 1000, 50);
        Checks.read(x, 0, "ticket 600;");
        Checks.read(x, 1, "relief 398; relief 7;");
        x.gift(true, 700);
        x.days(7);
        T.due("both come, one is eaten", x.of(0, 6), 600 + 398 - 1);
        T.due("the fund pays for tickets alone", x.many(8), 100);
        x.days(7);
        T.due("999 at most, 1 eaten behind", x.of(0, 6), 998);
        T.due("drawn all the same", x.many(8), 0);
        Checks.read(x, 1, "");
        x.days(1);
        T.due("garden first, then larder", x.of(0, 6), 997);
    }

    private static void settings() {
        LongStrike x = Checks.valley(1, 2);
        int[][] wrong = {{0, -1}, {0, 2}, {1, -1}, {1, 1000}, {2, -1}, {2, 10}, {10, -1}, {10, 901}, {12, 1}, {3, 1}, {9, 1},
            {-1, 0}, {14, 0}, {MIN, 0}, {MAX, 0}, {0, MIN}, {1, MAX}};
        for (int[] w : wrong) T.due("set(" + w[0] + ", " + w[1] + ")", x.set(w[0], w[1]), -1);
        T.due("COLD", x.set(0, 1), 0);
        T.due("COLD", x.set(0, 0), 1);
        T.due("BURN", x.set(1, 999), 0);
        T.due("BURN", x.set(1, 0), 999);
        T.due("MILES", x.set(2, 0), 9);
        T.due("MILES", x.set(2, 9), 0);
        T.due("WANT", x.set(10, 900), 50);
        T.due("WANT", x.set(10, 0), 900);
        T.due("WANT of the other", x.set(11, 7), 50);
        T.due("WANT told", x.pitOf(1, 3), 7);
        x.pit(0, 1, 1, 1);
        x.pit(0, 1, 1, 1);
        T.due("WANT of the fourth", x.set(13, 8), 50);
        T.due("WANT of a fifth", x.set(14, 8), -1);
        T.due("WANT told", x.pitOf(3, 3), 8);
    }

    private static void gifts() {
        LongStrike x = new LongStrike();
        for (int n : new int[] {0, -1, 10000, MIN, MAX}) {
            T.due("gift(true, " + n + ")", x.gift(true, n), -1);
            T.due("gift(false, " + n + ")", x.gift(false, n), -1);
        }
        T.due("to the fund", x.gift(true, 1), 1);
        T.due("to the stock", x.gift(false, 9999), 9999);
        for (int i = 2; i <= 10; i++) T.due("more", x.gift(false, 9999), 9999 * i);
        T.due("99999 at most", x.gift(false, 9999), 99999);
        for (int i = 1; i <= 10; i++) x.gift(true, 9999);
        T.due("99991 and 8", x.gift(true, 8), 99999);
        T.due("99999 at most", x.gift(true, 1), 99999);
        T.due("many(8)", x.many(8), 99999);
        T.due("many(9)", x.many(9), 99999);
    }

    private static void ships() {
        LongStrike x = new LongStrike();
        x.days(2);
        int[][] wrong = {{2, 1}, {1, 1}, {-1, 1}, {1000, 1}, {3, 0}, {3, 10000}, {MAX, 1}, {MIN, 1}, {3, MIN}};
        for (int[] w : wrong) T.due("a wrong ship", x.ship(w[0], w[1]), -1);
        T.due("a ship", x.ship(3, 5), 1);
        T.due("a ship", x.ship(4, 50), 2);
        T.due("a ship on the same day", x.ship(3, 500), 3);
        T.due("a ship", x.ship(999, 9999), 4);
        T.due("a ship", x.ship(5, 1), 5);
        T.due("a ship", x.ship(6, 1), 6);
        T.due("a seventh", x.ship(7, 1), -2);
        T.due("a seventh that is wrong: BAD first", x.ship(2, 1), -1);
        x.gift(false, 10);
        x.set(1, 15);
        x.days(1);
        T.due("burnt first, then brought", x.many(9), 505);
        T.due("due yet", x.many(7), 4);
        x.days(1);
        T.due("burnt and brought", x.many(9), 540);
        T.due("room again", x.ship(7, 1), 4);
        LongStrike y = new LongStrike();
        for (int i = 0; i < 10; i++) y.gift(false, 9999);
        y.ship(1, 9999);
        y.days(1);
        T.due("99999 at most", y.many(9), 99999);
        y.set(1, 999);
        y.days(60);
        y.days(60);
        T.due("0 at least", y.many(9), 0);
    }
}
