/** Promises 1 to 13, the valley, with sections 1 and 3 of the terms: each test names the sentence that it holds. */
public final class Promise01To13Test {
    private static final Promises T = new Promises(Promise01To13Test.class);
    private static final int MIN = Integer.MIN_VALUE, MAX = Integer.MAX_VALUE;
    private static final int BAD = -1, FULL = -2, NONE = -3, STATE = -4;

    public static void main(String[] args) {
        T.run();
    }

    // ---- 1: a new object

    private static void p01_nothingIsThere() {
        T.sentence(1, "DAY 0; nothing is there; nothing is kept.");
        LongStrike x = new LongStrike();
        for (int what = 0; what <= 16; what++) T.due("many(" + what + ")", x.many(what), 0);
        T.due("again()", x.again(), NONE);
        T.due("road(0, 1, 1)", x.road(0, 1, 1), BAD);
        T.due("road(0, 0, 1)", x.road(0, 0, 1), BAD);
        T.due("of(0, 0)", x.of(0, 0), BAD);
        T.due("pitOf(0, 0)", x.pitOf(0, 0), BAD);
        T.due("shopOf(0, 0)", x.shopOf(0, 0), BAD);
        T.due("hears(0, 0)", x.hears(0, 0), BAD);
        T.due("why(0, 0)", x.why(0, 0), BAD);
        T.due("draws(0)", x.draws(0), BAD);
        T.due("evict(0)", x.evict(0), BAD);
        T.due("trace(0)", x.trace(0), NONE);
        T.due("row(0, 0)", x.row(0, 0), -9);
        T.due("dropRow()", x.dropRow(), NONE);
        T.due("judge()", x.judge(), NONE);
        T.due("the first village", x.village(), 0);
    }

    private static void p01_keptAndTakenBackEmpty() {
        T.sentence(1, "nothing is there; nothing is kept.");
        LongStrike x = new LongStrike();
        T.due("keep() of a new one", x.keep(), 1);
        x.village();
        x.days(9);
        T.due("again()", x.again(), 1);
        for (int what = 0; what <= 16; what++) T.due("many(" + what + ")", x.many(what), 0);
        T.due("road(0, 1, 1)", x.road(0, 1, 1), BAD);
    }

    // ---- 2: days, and what a day does

    private static void p02_oneToSixtyDays() {
        T.sentence(2, "TODAY goes n (1 to 60) DAYS on: it. BAD: n isn't as told");
        LongStrike x = new LongStrike();
        T.due("days(1)", x.days(1), 1);
        T.due("days(60)", x.days(60), 61);
        T.due("days(59)", x.days(59), 120);
        T.due("days(2)", x.days(2), 122);
        T.due("many(0)", x.many(0), 122);
        for (int n : new int[] {0, 61, -1, -60, MIN, MAX, MAX - 60}) {
            T.refused("days(" + n + ")", Valleys.SOME, v -> v.days(n), BAD);
        }
    }

    private static void p02_noDayAbove999() {
        T.sentence(2, "DAYS are 0 to 999; TODAY is one (0 at first).");
        LongStrike x = new LongStrike();
        for (int i = 1; i <= 16; i++) T.due("days(60)", x.days(60), 60 * i);
        T.due("days(40) on day 960", x.days(40), STATE);
        T.due("days(60) on day 960", x.days(60), STATE);
        T.due("many(0)", x.many(0), 960);
        T.due("days(39) on day 960", x.days(39), 999);
        T.due("days(1) on day 999", x.days(1), STATE);
        T.due("many(0)", x.many(0), 999);
        for (int n : new int[] {1, 2, 60}) T.refused("days(" + n + ")", Valleys.LAST_DAY, v -> v.days(n), STATE);
    }

    private static void p02_badAheadOfState() {
        T.sentence(2, "BAD: n isn't as told; STATE: it would be above 999.");
        for (int n : new int[] {0, 61, MAX, MIN}) T.refused("days(" + n + ")", Valleys.LAST_DAY, v -> v.days(n), BAD);
    }

    private static void p02_refusedGoesNoDay() {
        T.sentence(2, "STATE: it would be above 999.");
        LongStrike x = Valleys.home(1, 1990, 50);
        Valleys.go(x, 995);
        int coal = x.of(0, 4);
        x.gift(false, 100);
        x.set(1, 7);
        T.due("days(5) on day 995", x.days(5), STATE);
        T.due("STOCK", x.many(9), 100);
        T.due("COAL", x.of(0, 4), coal);
        T.due("days(4)", x.days(4), 999);
        T.due("STOCK", x.many(9), 72);
    }

    private static void p02_atOnceAsOneByOne() {
        T.sentence(2, "As TODAY goes on by a DAY, in turn:");
        for (int n : new int[] {2, 7, 8, 30, 60}) {
            T.changesNothing(n + " days one by one", daysAtOnce(n), x -> 0);
            LongStrike all = daysAtOnce(n).get();
            LongStrike each = Valleys.SOME.get();
            for (int i = 0; i < n; i++) each.days(1);
            for (int h = 0; h < 4; h++) {
                for (int what = 3; what <= 11; what++) T.due("of(" + h + ", " + what + ")", each.of(h, what), all.of(h, what));
            }
            for (int what : new int[] {0, 7, 8, 9, 16}) T.due("many(" + what + ")", each.many(what), all.many(what));
            for (int p = 0; p < 2; p++) T.due("WATER", each.pitOf(p, 1), all.pitOf(p, 1));
        }
    }

    private static java.util.function.Supplier<LongStrike> daysAtOnce(int n) {
        return () -> {
            LongStrike x = Valleys.SOME.get();
            x.days(n);
            return x;
        };
    }

    private static void p02_waterIsZeroAtLeast() {
        T.sentence(2, "WATER is INFLOW more, and as many safety men as SAFETY tells pump: PUMPED times them less, 0 at "
            + "least.");
        LongStrike x = Valleys.of(1, 0);
        int[] pumped = {0, 4, 5, 6};
        for (int p : pumped) x.pit(0, 5, p, 9999);
        Valleys.read(x, 0, "safety 1;");
        Valleys.read(x, 2, "safety 1;");
        x.days(1);
        int[] first = {5, 1, 0, 0};
        for (int p = 0; p < 4; p++) T.due("WATER, pumped " + pumped[p], x.pitOf(p, 1), first[p]);
        Valleys.read(x, 0, "");
        x.days(1);
        int[] second = {10, 6, 5, 5};
        for (int p = 0; p < 4; p++) T.due("none was below 0: " + p, x.pitOf(p, 1), second[p]);
        Valleys.read(x, 0, "safety 2;");
        Valleys.read(x, 2, "safety 2;");
        x.days(1);
        int[] third = {15, 3, 0, 0};
        for (int p = 0; p < 4; p++) T.due("two men, the inflow first: " + p, x.pitOf(p, 1), third[p]);
        Valleys.read(x, 0, "safety 999;");
        Valleys.read(x, 2, "safety 999;");
        x.days(60);
        int[] fourth = {15 + 300, 0, 0, 0};
        for (int p = 0; p < 4; p++) T.due("999 men: " + p, x.pitOf(p, 1), fourth[p]);
    }

    private static void p02_lostAboveLimit() {
        T.sentence(2, "A PIT whose WATER is above LIMIT is LOST on that DAY, for good (its WATER stays).");
        LongStrike x = Valleys.of(1, 0);
        x.pit(0, 10, 9, 20);
        x.pit(0, 10, 9, 19);
        x.pit(0, 50, 9, 49);
        x.pit(0, 1, 9, 1);
        int[][] lostOn = {{NONE, NONE, 1, NONE}, {NONE, 2, 1, 2}, {3, 2, 1, 2}, {3, 2, 1, 2}};
        int[][] water = {{10, 10, 50, 1}, {20, 20, 50, 2}, {30, 20, 50, 2}, {30, 20, 50, 2}};
        for (int day = 1; day <= 4; day++) {
            x.days(1);
            for (int p = 0; p < 4; p++) {
                T.due("day " + day + ": pitOf(" + p + ", 2)", x.pitOf(p, 2), lostOn[day - 1][p]);
                T.due("day " + day + ": pitOf(" + p + ", 1)", x.pitOf(p, 1), water[day - 1][p]);
            }
        }
        Valleys.read(x, 0, "safety 9;");
        Valleys.read(x, 2, "safety 9;");
        Valleys.go(x, 100);
        for (int p = 0; p < 4; p++) {
            T.due("pumped: lost for good: " + p, x.pitOf(p, 2), lostOn[3][p]);
            T.due("pumped: its water stays: " + p, x.pitOf(p, 1), water[3][p]);
        }
    }

    private static void p02_pitsOfTheSameLimit() {
        T.sentence(2, "PITS by numbers: WATER is INFLOW more");
        LongStrike x = Valleys.of(1, 0);
        for (int i = 0; i < 4; i++) x.pit(0, 50, 0, 9999);
        x.days(60);
        for (int p = 0; p < 4; p++) T.due("WATER", x.pitOf(p, 1), 3000);
        Valleys.go(x, 139);
        for (int p = 0; p < 4; p++) T.due("9950 isn't above 9999", x.pitOf(p, 2), NONE);
        x.days(1);
        for (int p = 0; p < 4; p++) T.due("10000 is above 9999", x.pitOf(p, 2), 200);
    }

    private static void p02_sharedEverySeventhDay() {
        T.sentence(2, "If the DAY modulo 7 is 0: THE FUND (0 at first, 99999 at most) is SHARED");
        LongStrike x = Valleys.home(1, 9990, 50);
        Valleys.read(x, 0, "ticket 5;");
        T.due("0 at first", x.many(8), 0);
        x.gift(true, 1000);
        int[][] steps = {{6, 1000}, {1, 995}, {1, 995}, {5, 995}, {1, 990}, {6, 990}, {60, 945}, {1, 945}, {3, 940}};
        for (int[] step : steps) {
            x.days(step[0]);
            T.due("THE FUND on day " + x.many(0), x.many(8), step[1]);
        }
    }

    private static void p02_enoughForAll() {
        T.sentence(2, "of those of one RANK each draws all of it, if THE FUND has enough for all");
        int[][] due = {{13, 3, 4, 5, 1}, {12, 3, 4, 5, 0}, {11, 3, 4, 4, 0}, {10, 3, 3, 4, 0}};
        for (int[] d : due) {
            LongStrike x = Valleys.of(1, 1);
            for (int i = 0; i < 3; i++) x.household(0, 0, 3 + i, 9990, 50);
            Valleys.read(x, 0, "ticket 3 if mouths=3;ticket 4 if mouths=4;ticket 5;");
            x.gift(true, d[0]);
            x.days(7);
            for (int i = 0; i < 3; i++) T.due("LARDER " + i + " by a fund of " + d[0], x.of(i, 6), d[1 + i]);
            T.due("THE FUND", x.many(8), d[4]);
        }
    }

    private static void p02_partsByTickets() {
        T.sentence(2, "else each its part (by TICKETS) of what there is, the rest away");
        LongStrike x = Valleys.of(1, 1);
        for (int i = 0; i < 3; i++) x.household(0, 0, 1 + i, 9990, 50);
        Valleys.read(x, 0, "ticket 10 if mouths=1;ticket 20 if mouths=2;ticket 70;");
        x.gift(true, 50);
        x.days(7);
        int[] halves = {5, 10, 35};
        for (int i = 0; i < 3; i++) T.due("half of its ticket: " + i, x.of(i, 6), halves[i]);
        x.gift(true, 99);
        x.days(7);
        // 9.9, 19.8 and 69.3 of 99; two are left: one for each of the first two
        int[] most = {5 + 10, 10 + 20, 35 + 69};
        for (int i = 0; i < 3; i++) T.due("99 of 100: " + i, x.of(i, 6), most[i]);
    }

    private static void p02_leftOneByOne() {
        T.sentence(2, "and what is left then goes one by one by numbers to those that still want");
        LongStrike x = Valleys.of(1, 1);
        for (int i = 0; i < 16; i++) x.household(0, 0, i < 2 ? 1 : 2, 9990, 50);
        Valleys.read(x, 0, "ticket 0 if mouths=1;ticket 2;");
        x.gift(true, 13);
        x.days(7);
        // of 28 wanted there are 13: not one whole meal for any, 13 are left; who has no ticket wants nothing
        for (int i = 0; i < 16; i++) T.due("LARDER " + i, x.of(i, 6), i < 2 || i == 15 ? 0 : 1);
        T.due("THE FUND", x.many(8), 0);
        x.gift(true, 1);
        x.days(7);
        T.due("a single meal", x.of(2, 6), 2);
        T.due("no more than one", x.of(3, 6), 1);
    }

    private static void p02_nothingToShare() {
        T.sentence(2, "of those of one RANK each draws all of it, if THE FUND has enough for all");
        LongStrike x = Valleys.home(1, 9990, 50);
        Valleys.read(x, 0, "ticket 5;");
        x.days(7);
        T.due("an empty fund", x.of(0, 6), 0);
        T.due("it stays empty", x.many(8), 0);
        Valleys.read(x, 0, "ticket 0;");
        x.gift(true, 4);
        x.days(7);
        T.due("tickets of 0", x.of(0, 6), 0);
        T.due("all stays", x.many(8), 4);
        LongStrike y = new LongStrike();
        y.gift(true, 4);
        y.days(7);
        T.due("no households", y.many(8), 4);
    }

    private static void p02_ranksZeroFirst() {
        T.sentence(2, "HOUSEHOLDS draw their TICKETS (meals), by RANKS, 0 first");
        LongStrike x = Valleys.of(1, 1);
        for (int i = 0; i < 10; i++) x.household(0, 0, i == 9 ? 9 : i + 1, 9990, i == 9 ? 51 : 50);
        Valleys.read(x, 0, "rank 8 if mouths=1;rank 7 if mouths=2;rank 6 if mouths=3;rank 0 if will>55 and mouths=9;ticket 1;");
        // by day 7 all have a will of 56 and more: the last two are of rank 0, the first three of 8, 7, 6, others of 9
        x.gift(true, 4);
        x.days(7);
        int[] drawn = {0, 1, 1, 0, 0, 0, 0, 0, 1, 1};
        for (int i = 0; i < 10; i++) T.due("LARDER " + i, x.of(i, 6), drawn[i]);
    }

    private static void p02_laterRanksNothing() {
        T.sentence(2, "later RANKS draw nothing.");
        int[][] due = {{10, 9, 1}, {9, 9, 0}, {8, 8, 0}, {0, 0, 0}, {19, 9, 9}};
        for (int[] d : due) {
            LongStrike x = Valleys.of(1, 1);
            x.household(0, 0, 1, 9990, 50);
            x.household(0, 0, 2, 9990, 50);
            Valleys.read(x, 0, "ticket 9;rank 1 if mouths=1;rank 0;");
            if (d[0] > 0) x.gift(true, d[0]);
            x.days(7);
            T.due("rank 0 by a fund of " + d[0], x.of(1, 6), d[1]);
            T.due("rank 1 by a fund of " + d[0], x.of(0, 6), d[2]);
            T.due("THE FUND is so much less", x.many(8), d[0] - d[1] - d[2]);
        }
    }

    private static void p02_reliefComesBesides() {
        T.sentence(2, "And RELIEF (meals, THE FUND doesn't pay for them) comes to each that isn't BACK.");
        LongStrike x = Valleys.of(1, 1);
        x.household(0, 0, 1, 9990, 50);
        x.household(0, 0, 1, 0, 2);
        x.household(0, 0, 1, 1990, 50);
        Valleys.read(x, 1, "relief 20;");
        Valleys.read(x, 2, "evict 0;");
        x.paper(2);
        x.evict(0);
        x.gift(true, 5);
        x.days(6);
        T.due("nothing comes on day 6", x.of(0, 6), 0);
        x.days(1);
        T.due("it comes", x.of(0, 6), 20);
        T.due("to the evicted, too; it eats one of them", x.of(2, 6), 19);
        T.due("not to one that is back", x.of(1, 6), 0);
        T.due("the fund doesn't pay", x.many(8), 5);
    }

    private static void p02_evictedDrawAsOthers() {
        T.sentence(2, "HOUSEHOLDS draw their TICKETS (meals), by RANKS, 0 first: of those of one RANK each draws all "
            + "of it, if THE FUND has enough for all");
        LongStrike x = Valleys.of(1, 1);
        for (int i = 0; i < 2; i++) x.household(0, 0, 1, 9990, 50);
        Valleys.read(x, 0, "ticket 6;");
        Valleys.read(x, 2, "evict 0;");
        x.paper(0);
        T.due("EVICTED", x.evict(0), 1);
        x.gift(true, 11);
        T.due("its part", x.draws(0), 6);
        T.due("the other one's part", x.draws(1), 5);
        T.due("what lacks for both", x.least(9), 1);
        x.days(7);
        T.due("it drew, and ate one", x.of(0, 6), 5);
        T.due("the other one", x.of(1, 6), 5);
        T.due("THE FUND", x.many(8), 0);
    }

    private static void p02_fundIsLessByWhatWasDrawn() {
        T.sentence(2, "THE FUND is so much less.");
        LongStrike x = Valleys.of(1, 1);
        for (int i = 0; i < 16; i++) x.household(0, 0, 1 + i % 9, 9990, 50);
        Valleys.read(x, 0, "ticket 9 if mouths < 4; ticket 3; rank 1 if mouths = 1;");
        for (int i = 0; i < 3; i++) x.gift(true, 100);
        int fund = 300;
        for (int week = 1; week <= 4; week++) {
            int larders = 0;
            for (int i = 0; i < 16; i++) larders -= x.of(i, 6);
            x.days(7);
            for (int i = 0; i < 16; i++) larders += x.of(i, 6);
            fund -= larders;
            T.due("THE FUND in week " + week, x.many(8), fund);
            T.due("drawn in week " + week, larders, week <= 3 ? 84 : 48);
        }
    }

    private static void p02_larderAtMost() {
        T.sentence(2, "LARDER (0 at first, 999 at most: what is above is lost) is so much more.");
        LongStrike x = Valleys.home(1, 9990, 50);
        T.due("0 at first", x.of(0, 6), 0);
        Valleys.read(x, 0, "ticket 998;");
        Valleys.read(x, 1, "relief 1;");
        for (int i = 0; i < 3; i++) x.gift(true, 998);
        x.days(7);
        T.due("999", x.of(0, 6), 999);
        x.days(7);
        T.due("999 at most", x.of(0, 6), 999);
        T.due("what is lost is drawn all the same", x.many(8), 998);
        Valleys.read(x, 0, "");
        Valleys.read(x, 1, "relief 999;");
        x.days(7);
        T.due("999 at most", x.of(0, 6), 999);
        LongStrike y = Valleys.home(1, 9990, 50);
        Valleys.read(y, 0, "ticket 999;");
        Valleys.read(y, 1, "relief 999;");
        y.gift(true, 999);
        y.days(7);
        T.due("both together", y.of(0, 6), 999);
        LongStrike z = Valleys.home(9, 90, 50);
        Valleys.read(z, 1, "relief 999;");
        z.days(14);
        T.due("999 are lost above ahead of the meal", z.of(0, 6), 990);
    }

    private static void p02_gardenSpoils() {
        T.sentence(2, "First come GARDEN's (what is too many spoils)");
        LongStrike x = Valleys.of(1, 1);
        int[] mouths = {4, 5, 6};
        for (int m : mouths) x.household(0, 0, m, 5990, 50);
        Valleys.read(x, 1, "relief 3;");
        x.days(7);
        int[] hungry = {0, 0, 6};
        int[] larder = {3, 3, 2};
        for (int h = 0; h < 3; h++) {
            T.due("HUNGRY DAYS with " + mouths[h] + " mouths", x.of(h, 8), hungry[h]);
            T.due("LARDER with " + mouths[h] + " mouths", x.of(h, 6), larder[h]);
        }
        x.days(3);
        int[] later = {3, 3, 0};
        for (int h = 0; h < 3; h++) T.due("LARDER with " + mouths[h] + " mouths", x.of(h, 6), later[h]);
        T.due("the larder was enough for two days more", x.of(2, 8), 7);
    }

    private static void p02_larderAheadOfShops() {
        T.sentence(2, "then LARDER's, then what SHOPS of its VILLAGE lend");
        LongStrike x = Valleys.home(5, 1990, 50);
        Valleys.read(x, 1, "relief 5;");
        x.days(6);
        x.shop(0, 50);
        x.days(1);
        T.due("four of the larder", x.of(0, 6), 1);
        T.due("nothing owed", x.of(0, 7), 0);
        x.days(1);
        T.due("the last one of the larder", x.of(0, 6), 0);
        T.due("three are owed", x.of(0, 7), 3);
        T.due("three are lent", x.shopOf(0, 2), 3);
        T.due("six hungry days", x.of(0, 8), 6);
    }

    private static void p02_shopsByNumbers() {
        T.sentence(2, "by numbers, each as far as its CREDIT goes that isn't lent yet: a meal 1.");
        LongStrike x = Valleys.of(2, 1);
        int[][] shops = {{1, 9}, {0, 0}, {0, 4}, {0, 5}};
        for (int[] s : shops) x.shop(s[0], s[1]);
        x.household(0, 0, 3, 990, 50);
        int[][] lent = {{0, 0, 3, 0}, {0, 0, 4, 2}, {0, 0, 4, 5}, {0, 0, 4, 5}};
        for (int day = 0; day < 4; day++) {
            x.days(1);
            for (int s = 0; s < 4; s++) T.due("day " + (day + 1) + ": shopOf(" + s + ", 2)", x.shopOf(s, 2), lent[day][s]);
            T.due("owed", x.of(0, 7), lent[day][2] + lent[day][3]);
            T.due("HUNGRY DAYS", x.of(0, 8), Math.max(0, day - 2));
        }
    }

    private static void p02_shopLendsThePartThatItHas() {
        T.sentence(2, "each as far as its CREDIT goes that isn't lent yet: a meal 1. What lacks then: if anything does "
            + "it is a HUNGRY DAY.");
        LongStrike x = Valleys.of(1, 1);
        x.shop(0, 1);
        x.household(0, 0, 2, 990, 50);
        x.days(1);
        T.due("one meal is lent all the same", x.of(0, 7), 1);
        T.due("one lacks", x.of(0, 8), 1);
        x.shop(0, 2);
        x.days(1);
        T.due("a new shop", x.of(0, 7), 3);
        T.due("nothing lacks", x.of(0, 8), 1);
    }

    private static void p02_householdsByNumbers() {
        T.sentence(2, "HOUSEHOLDS by numbers: it needs MOUTHS meals.");
        LongStrike x = Valleys.of(2, 1);
        x.shop(0, 5);
        x.household(0, 0, 2, 990, 50);
        x.household(1, 0, 9, 990, 50);
        x.household(0, 0, 2, 990, 50);
        x.household(0, 0, 2, 990, 50);
        x.days(1);
        int[] owes = {2, 0, 2, 1};
        int[] hungry = {0, 1, 0, 1};
        for (int h = 0; h < 4; h++) {
            T.due("of(" + h + ", 7)", x.of(h, 7), owes[h]);
            T.due("of(" + h + ", 8)", x.of(h, 8), hungry[h]);
        }
    }

    private static void p02_coalOrCold() {
        T.sentence(2, "If COAL is above 0 it is 1 less; else, if THE COLD is told (1), it is a COLD DAY.");
        LongStrike x = Valleys.of(1, 1);
        int[] coal = {0, 10, 20};
        for (int c : coal) x.household(0, 0, 1, 1000 + c, 50);
        x.set(0, 1);
        int[][] coals = {{0, 0, 1}, {0, 0, 0}, {0, 0, 0}};
        int[][] cold = {{1, 0, 0}, {2, 1, 0}, {3, 2, 1}};
        for (int day = 0; day < 3; day++) {
            x.days(1);
            for (int h = 0; h < 3; h++) {
                T.due("COAL " + h, x.of(h, 4), coals[day][h]);
                T.due("COLD DAYS " + h, x.of(h, 9), cold[day][h]);
            }
        }
        x.set(0, 0);
        x.days(1);
        for (int h = 0; h < 3; h++) T.due("no cold is told: " + h, x.of(h, 9), cold[2][h]);
        LongStrike y = Valleys.home(1, 1010, 50);
        y.days(2);
        T.due("coal is less without cold, too", y.of(0, 4), 0);
        T.due("but no cold day", y.of(0, 9), 0);
    }

    private static void p02_willOfADay() {
        T.sentence(2, "WILL: 2 less on a HUNGRY DAY, 1 less on a COLD DAY, 1 more if neither");
        LongStrike x = Valleys.of(1, 1);
        x.household(0, 0, 1, 1010, 50);
        x.household(0, 0, 1, 1000, 50);
        x.household(0, 0, 1, 10, 50);
        x.household(0, 0, 1, 0, 50);
        x.set(0, 1);
        x.days(1);
        int[] will = {51, 49, 48, 47};
        for (int h = 0; h < 4; h++) T.due("WILL " + h, x.of(h, 5), will[h]);
        x.days(1);
        int[] later = {50, 48, 45, 44};
        for (int h = 0; h < 4; h++) T.due("WILL " + h, x.of(h, 5), later[h]);
    }

    private static void p02_willZeroAtLeast() {
        T.sentence(2, "all together 0 at least, 99 at most.");
        int[][] due = {{1000, 98, 99}, {1000, 99, 99}, {1000, 0, 1}, {0, 3, 1}, {0, 2, 0}, {0, 1, 0}, {0, 0, 0}, {0, 99, 97}};
        for (int[] d : due) {
            LongStrike x = Valleys.home(1, d[0], d[1]);
            x.days(1);
            T.due("WILL of " + d[1] + " behind a day with a garden of " + d[0] / 1000, x.of(0, 5), d[2]);
        }
    }

    private static void p02_willAllTogether() {
        T.sentence(2, "and by the NEWS that it HEARS on that DAY (see 4); all together 0 at least, 99 at most.");
        int[][] due = {{1000, 99, -1, 99}, {1000, 99, -3, 97}, {0, 1, 5, 4}, {0, 0, 2, 0}, {0, 0, 3, 1}, {1000, 0, -1, 0},
            {1000, 1, -1, 1}, {1000, 1, -2, 0}, {1000, 90, 20, 99}, {0, 10, -20, 0}, {1000, 50, 0, 51}};
        for (int[] d : due) {
            LongStrike x = Valleys.home(1, d[0], d[1]);
            x.news(0, d[2]);
            x.days(1);
            T.due("WILL of " + d[1] + " with news of " + d[2], x.of(0, 5), d[3]);
            T.due("BACK", x.of(0, 10), d[3] == 0 ? 1 : 0);
        }
        LongStrike y = Valleys.home(1, 1000, 50);
        for (int i = 0; i < 6; i++) y.news(0, 20);
        for (int i = 0; i < 6; i++) y.news(0, -20);
        y.days(1);
        T.due("120 more and 120 less", y.of(0, 5), 51);
    }

    private static void p02_stockBurns() {
        T.sentence(2, "WORKS burn: STOCK (0 at first) is BURN (0 to 999) less, 0 at least.");
        LongStrike x = new LongStrike();
        x.set(1, 10);
        x.days(1);
        T.due("0 at first, and at least", x.many(9), 0);
        x.gift(false, 25);
        int[] due = {15, 5, 0, 0};
        for (int d : due) {
            x.days(1);
            T.due("STOCK", x.many(9), d);
        }
        x.gift(false, 10);
        x.days(1);
        T.due("all of it", x.many(9), 0);
        x.gift(false, 999);
        x.set(1, 0);
        x.days(3);
        T.due("nothing burns", x.many(9), 999);
        x.set(1, 999);
        x.days(1);
        T.due("all burns", x.many(9), 0);
    }

    private static void p02_shipsBring() {
        T.sentence(2, "SHIPS that are due on that DAY bring what they have (STOCK 99999 at most).");
        LongStrike x = new LongStrike();
        x.set(1, 10);
        x.gift(false, 5);
        x.ship(1, 3);
        x.ship(3, 20);
        x.ship(3, 4);
        x.ship(5, 9);
        int[][] due = {{3, 3}, {0, 3}, {24, 1}, {14, 1}, {13, 0}, {3, 0}};
        for (int[] d : due) {
            x.days(1);
            T.due("STOCK on day " + x.many(0), x.many(9), d[0]);
            T.due("due yet on day " + x.many(0), x.many(7), d[1]);
        }
        LongStrike y = new LongStrike();
        for (int i = 0; i < 10; i++) y.gift(false, 9999);
        y.gift(false, 8);
        T.due("99998", y.many(9), 99998);
        y.ship(1, 1);
        y.ship(2, 1);
        y.ship(3, 9999);
        y.days(1);
        T.due("99999", y.many(9), 99999);
        y.days(1);
        T.due("99999 at most", y.many(9), 99999);
        y.set(1, 999);
        y.days(1);
        T.due("burnt first: 99000 and 9999", y.many(9), 99999);
        LongStrike z = new LongStrike();
        z.ship(2, 7);
        z.ship(58, 8);
        z.days(60);
        T.due("in days that go by at once", z.many(9), 15);
    }

    private static void p02_backWhenWillIsZero() {
        T.sentence(2, "Households whose WILL is 0 behind (3) are BACK from then on, for good");
        LongStrike x = Valleys.of(1, 1);
        x.household(0, 0, 1, 990, 0);
        x.household(0, 0, 1, 1990, 0);
        x.household(0, 0, 1, 990, 2);
        x.household(0, 0, 1, 990, 3);
        for (int h = 0; h < 4; h++) T.due("nobody is back ahead of a day", x.of(h, 10), 0);
        T.due("many(16)", x.many(16), 0);
        x.days(1);
        int[] first = {1, 0, 1, 0};
        for (int h = 0; h < 4; h++) T.due("BACK " + h, x.of(h, 10), first[h]);
        T.due("many(16)", x.many(16), 2);
        x.days(1);
        int[] second = {1, 0, 1, 1};
        for (int h = 0; h < 4; h++) T.due("BACK " + h, x.of(h, 10), second[h]);
        for (int i = 0; i < 5; i++) x.news(0, 20);
        x.days(20);
        for (int h = 0; h < 4; h++) T.due("for good: " + h, x.of(h, 10), second[h]);
        T.due("the other one lives on", x.of(1, 5), 99);
    }

    private static void p02_drawsOnTheDayItGoesBack() {
        T.sentence(2, "Households whose WILL is 0 behind (3) are BACK from then on, for good: they draw no TICKETS");
        LongStrike x = Valleys.of(1, 1);
        x.household(0, 0, 9, 990, 14);
        x.household(0, 0, 1, 1990, 50);
        Valleys.read(x, 0, "ticket 3;");
        x.gift(true, 7);
        x.days(6);
        T.due("not yet", x.of(0, 10), 0);
        x.days(1);
        T.due("hungry with its ticket, too", x.of(0, 10), 1);
        T.due("both drew on that day", x.many(8), 1);
        T.due("all eaten", x.of(0, 6), 0);
        x.gift(true, 4);
        x.days(7);
        T.due("the other one alone", x.many(8), 2);
        T.due("nothing for one that is back", x.of(0, 6), 0);
        T.due("its ticket by rules", x.of(0, 12), 3);
    }

    private static void p02_backNeedsNothing() {
        T.sentence(2, "they draw no TICKETS, needn't eat any more (nor do COAL, WILL change), and HEAR nothing.");
        LongStrike x = Valleys.of(1, 1);
        x.household(0, 0, 2, 50, 2);
        Valleys.read(x, 0, "ticket 7;");
        Valleys.read(x, 1, "relief 7;");
        x.days(1);
        T.due("BACK", x.of(0, 10), 1);
        x.shop(0, 9);
        x.gift(true, 50);
        x.set(0, 1);
        x.news(0, 20);
        Valleys.go(x, 70);
        int[] of = {0, 0, 2, 0, 4, 0, 0, 0, 1, 0, 1, 0};
        for (int what = 0; what < of.length; what++) T.due("of(0, " + what + ")", x.of(0, what), of[what]);
        T.due("THE FUND", x.many(8), 50);
        T.due("nothing lent", x.shopOf(0, 2), 0);
        LongStrike y = Valleys.of(1, 1);
        y.household(0, 0, 9, 50, 14);
        Valleys.read(y, 1, "relief 30;");
        y.days(7);
        T.due("a full larder isn't hungry", y.of(0, 6), 21);
        y.news(0, -20);
        y.days(1);
        T.due("BACK by news", y.of(0, 10), 1);
        y.days(9);
        T.due("its larder stays", y.of(0, 6), 12);
    }

    // ---- 3: village

    private static void p03_sixVillages() {
        T.sentence(3, "VILLAGES, 6 at most, numbered as they come.");
        LongStrike x = new LongStrike();
        for (int i = 0; i < 6; i++) T.due("village()", x.village(), i);
        T.due("a seventh", x.village(), FULL);
        T.due("many(1)", x.many(1), 6);
        T.due("again a seventh", x.village(), FULL);
        T.due("a road to it", x.road(0, 6, 1), BAD);
    }

    private static void p03_full() {
        T.sentence(3, "A VILLAGE: its number. FULL.");
        T.refused("village()", Valleys.FULL, LongStrike::village, FULL);
    }

    // ---- 4: road

    private static void p04_oneToNine() {
        T.sentence(4, "ROAD between two VILLAGES is n: what it was.");
        LongStrike x = Valleys.of(6, 0);
        for (int a = 0; a < 6; a++) {
            for (int b = 0; b < 6; b++) if (a != b) T.due(Promises.told("road", a, b, 1), x.road(a, b, 1), 1);
        }
        for (int n = 1; n <= 9; n++) T.due("road(0, 5, " + n + ")", x.road(0, 5, n), n == 1 ? 1 : n - 1);
        T.due("road(5, 0, 1)", x.road(5, 0, 1), 9);
        T.due("road(0, 5, 1)", x.road(0, 5, 1), 1);
    }

    private static void p04_theSameBothWays() {
        T.sentence(4, "ROAD between two VILLAGES: DAYS (1 to 9; 1 at first; 0 from one to itself), the same both ways.");
        LongStrike x = Valleys.of(6, 0);
        for (int a = 0; a < 6; a++) {
            for (int b = 0; b < a; b++) T.due("1 at first", x.road(a, b, 1 + (3 * a + b) % 9), 1);
        }
        for (int a = 0; a < 6; a++) {
            for (int b = 0; b < a; b++) T.due("the other way", x.road(b, a, 1 + (3 * a + b) % 9), 1 + (3 * a + b) % 9);
        }
        LongStrike y = Valleys.of(2, 0);
        y.post(false, 0);
        y.post(true, 0);
        T.due("0 from one to itself", y.watch(1), 0);
    }

    private static void p04_bad() {
        T.sentence(4, "BAD: there is no such VILLAGE (either), they are the same, or n isn't as told.");
        int[][] wrong = {{-1, 0, 1}, {3, 0, 1}, {0, -1, 1}, {0, 3, 1}, {MIN, 0, 1}, {0, MAX, 1}, {0, 0, 1}, {2, 2, 9},
            {0, 1, 0}, {0, 1, 10}, {0, 1, -1}, {0, 1, MIN}, {0, 1, MAX}, {5, 5, 5}, {3, 4, 1}};
        for (int[] w : wrong) T.refused(Promises.told("road", w), Valleys.SOME, x -> x.road(w[0], w[1], w[2]), BAD);
    }

    // ---- 5: pit

    private static void p05_leastAndMost() {
        T.sentence(5, "each in a VILLAGE, with WATER (0 at first), INFLOW (1 to 50) each DAY, PUMPED (0 to 50) each "
            + "DAY by every safety man, LIMIT (1 to 9999).");
        LongStrike x = Valleys.of(6, 0);
        T.due("the least", x.pit(0, 1, 0, 1), 0);
        T.due("the most", x.pit(5, 50, 50, 9999), 1);
        T.due("another", x.pit(3, 2, 49, 9998), 2);
        T.due("the fourth", x.pit(3, 49, 1, 2), 3);
        T.due("many(2)", x.many(2), 4);
        T.due("VILLAGE", x.pitOf(1, 0), 5);
        T.due("WATER is 0 at first", x.pitOf(1, 1), 0);
    }

    private static void p05_bad() {
        T.sentence(5, "BAD: there is no such VILLAGE, or a number isn't as told; FULL.");
        int[][] wrong = {{-1, 1, 0, 1}, {3, 1, 0, 1}, {MIN, 1, 0, 1}, {MAX, 1, 0, 1}, {0, 0, 0, 1}, {0, 51, 0, 1}, {0, -1, 0, 1},
            {0, MAX, 0, 1}, {0, 1, -1, 1}, {0, 1, 51, 1}, {0, 1, MIN, 1}, {0, 1, 0, 0}, {0, 1, 0, 10000}, {0, 1, 0, -1},
            {0, 1, 0, MAX}};
        for (int[] w : wrong) T.refused(Promises.told("pit", w), Valleys.SOME, x -> x.pit(w[0], w[1], w[2], w[3]), BAD);
        T.due("without a village", new LongStrike().pit(0, 1, 0, 1), BAD);
    }

    private static void p05_full() {
        T.sentence(5, "PITS, 4 at most, numbered as they come");
        LongStrike x = Valleys.of(1, 3);
        T.due("the fourth", x.pit(0, 1, 1, 1), 3);
        T.due("a fifth", x.pit(0, 1, 1, 1), FULL);
        T.refused("a fifth", Valleys.FULL, v -> v.pit(0, 1, 1, 1), FULL);
        T.refused("BAD ahead of FULL", Valleys.FULL, v -> v.pit(0, 0, 1, 1), BAD);
        T.refused("BAD ahead of FULL", Valleys.FULL, v -> v.pit(6, 1, 1, 1), BAD);
    }

    // ---- 6: shop

    private static void p06_leastAndMost() {
        T.sentence(6, "each in a VILLAGE, with CREDIT (0 to 999: how much it lends in all).");
        LongStrike x = Valleys.of(6, 0);
        int[][] shops = {{0, 0}, {5, 999}, {2, 1}, {3, 998}};
        for (int s = 0; s < 4; s++) T.due("shop", x.shop(shops[s][0], shops[s][1]), s);
        for (int s = 0; s < 4; s++) T.due("all of its credit is lent", shopThatLends(shops[s][1]), shops[s][1]);
        for (int s = 0; s < 4; s++) {
            T.due("VILLAGE", x.shopOf(s, 0), shops[s][0]);
            T.due("CREDIT", x.shopOf(s, 1), shops[s][1]);
            T.due("lent", x.shopOf(s, 2), 0);
        }
    }

    private static int shopThatLends(int credit) {
        LongStrike x = Valleys.of(1, 1);
        x.shop(0, credit);
        for (int i = 0; i < 8; i++) x.household(0, 0, 9, 0, 99);
        x.days(20);
        return x.shopOf(0, 2);
    }

    private static void p06_bad() {
        T.sentence(6, "BAD: there is no such VILLAGE, or credit isn't as told; FULL.");
        int[][] wrong = {{-1, 5}, {3, 5}, {MIN, 5}, {MAX, 5}, {0, -1}, {0, 1000}, {0, MIN}, {0, MAX}};
        for (int[] w : wrong) T.refused(Promises.told("shop", w), Valleys.SOME, x -> x.shop(w[0], w[1]), BAD);
        T.due("without a village", new LongStrike().shop(0, 5), BAD);
    }

    private static void p06_full() {
        T.sentence(6, "SHOPS, 4 at most, numbered as they come");
        LongStrike y = Valleys.of(1, 0);
        y.keep();
        for (int i = 0; i < 4; i++) T.due("shop", y.shop(0, i), i);
        T.due("a fifth", y.shop(0, 5), FULL);
        T.refused("a fifth", Valleys.FULL, x -> x.shop(0, 5), FULL);
        T.refused("BAD ahead of FULL", Valleys.FULL, x -> x.shop(0, 1000), BAD);
        T.refused("BAD ahead of FULL", Valleys.FULL, x -> x.shop(-1, 5), BAD);
    }

    // ---- 7: household

    private static void p07_leastAndMost() {
        T.sentence(7, "in a VILLAGE, of a PIT, MOUTHS (1 to 9), GARDEN (0 to 9: meals each DAY), COAL (0 to 99), WILL "
            + "(0 to 99).");
        LongStrike x = Valleys.of(6, 4);
        T.due("the least", x.household(0, 0, 1, 0, 0), 0);
        T.due("the most", x.household(5, 3, 9, 9999, 99), 1);
        int[][] of = {{0, 0, 1, 0, 0, 0}, {5, 3, 9, 9, 99, 99}};
        for (int h = 0; h < 2; h++) {
            for (int what = 0; what <= 5; what++) T.due("of(" + h + ", " + what + ")", x.of(h, what), of[h][what]);
            for (int what = 6; what <= 11; what++) T.due("of(" + h + ", " + what + ") at first", x.of(h, what), 0);
        }
    }

    private static void p07_digitsOfHow() {
        T.sentence(7, "how: 1000 times GARDEN, and 10 times COAL (its last digit counts nothing).");
        int[][] due = {{0, 0, 0}, {9, 0, 0}, {10, 0, 1}, {19, 0, 1}, {99, 0, 9}, {100, 0, 10}, {990, 0, 99}, {999, 0, 99},
            {1000, 1, 0}, {1009, 1, 0}, {1010, 1, 1}, {5678, 5, 67}, {9000, 9, 0}, {9990, 9, 99}, {9999, 9, 99}};
        LongStrike x = Valleys.of(1, 1);
        for (int i = 0; i < due.length; i++) {
            T.due("household with " + due[i][0], x.household(0, 0, 1, due[i][0], 1), i);
            T.due("GARDEN of " + due[i][0], x.of(i, 3), due[i][1]);
            T.due("COAL of " + due[i][0], x.of(i, 4), due[i][2]);
        }
    }

    private static void p07_bad() {
        T.sentence(7, "BAD: there is no such VILLAGE, PIT, or a number (how below 0, or above 9999) isn't as told; "
            + "FULL.");
        int[][] wrong = {{-1, 0, 1, 0, 0}, {3, 0, 1, 0, 0}, {MAX, 0, 1, 0, 0}, {MIN, 0, 1, 0, 0}, {0, -1, 1, 0, 0}, {0, 2, 1, 0, 0},
            {0, MAX, 1, 0, 0}, {0, MIN, 1, 0, 0}, {0, 0, 0, 0, 0}, {0, 0, 10, 0, 0}, {0, 0, -1, 0, 0}, {0, 0, MAX, 0, 0},
            {0, 0, 1, -1, 0}, {0, 0, 1, 10000, 0}, {0, 0, 1, MIN, 0}, {0, 0, 1, MAX, 0}, {0, 0, 1, 0, -1}, {0, 0, 1, 0, 100},
            {0, 0, 1, 0, MIN}, {0, 0, 1, 0, MAX}};
        for (int[] w : wrong) {
            T.refused(Promises.told("household", w), Valleys.SOME, x -> x.household(w[0], w[1], w[2], w[3], w[4]), BAD);
        }
        T.due("without a pit", Valleys.of(1, 0).household(0, 0, 1, 0, 0), BAD);
        T.due("without anything", new LongStrike().household(0, 0, 1, 0, 0), BAD);
    }

    private static void p07_full() {
        T.sentence(7, "HOUSEHOLDS, 16 at most, numbered as they come");
        LongStrike x = Valleys.of(1, 1);
        for (int i = 0; i < 16; i++) T.due("household", x.household(0, 0, 1, 0, i), i);
        T.due("a seventeenth", x.household(0, 0, 1, 0, 1), FULL);
        for (int i = 0; i < 16; i++) T.due("WILL", x.of(i, 5), i);
        T.refused("a seventeenth", Valleys.FULL, v -> v.household(0, 0, 1, 0, 1), FULL);
        T.refused("BAD ahead of FULL", Valleys.FULL, v -> v.household(0, 4, 1, 0, 1), BAD);
        T.refused("BAD ahead of FULL", Valleys.FULL, v -> v.household(0, 0, 1, 0, 100), BAD);
    }

    // ---- 8: of

    private static void p08_allThatIsTold() {
        T.sentence(8, "Of a HOUSEHOLD: what = 0 VILLAGE, 1 PIT, 2 MOUTHS, 3 GARDEN, 4 COAL, 5 WILL, 6 LARDER, 7 what it owes, "
            + "8 HUNGRY DAYS, 9 COLD DAYS");
        LongStrike x = Valleys.of(3, 2);
        x.shop(2, 11);
        x.household(2, 1, 4, 1070, 60);
        Valleys.read(x, 1, "relief 25;");
        x.days(6);
        x.set(0, 1);
        x.days(4);
        // owes 3, 3, 3, 2 and is hungry on days 4, 5, 6; 25 come on day 7, 3 a day are eaten; cold on days 8, 9, 10
        int[] of = {2, 1, 4, 1, 0, 60 + 3 - 6 + 1 - 3, 13, 11, 3, 3, 0, 0, 0, 9, 25, 1};
        for (int what = 0; what < of.length; what++) T.due("of(0, " + what + ")", x.of(0, what), of[what]);
    }

    private static void p08_backAndEvicted() {
        T.sentence(8, "10 1 if BACK, else 0, 11 1 if EVICTED, else 0");
        LongStrike x = Valleys.of(1, 1);
        for (int i = 0; i < 4; i++) x.household(0, 0, 1, i % 2 == 0 ? 1000 : 0, i % 2 == 0 ? 50 : 2);
        Valleys.read(x, 2, "evict 0;");
        x.paper(2);
        x.paper(3);
        T.due("evict(0)", x.evict(0), 1);
        T.due("evict(1)", x.evict(1), 1);
        x.days(1);
        int[][] due = {{0, 0}, {1, 0}, {0, 1}, {1, 1}};
        for (int h = 0; h < 4; h++) {
            T.due("of(" + h + ", 10)", x.of(h, 10), due[h][0]);
            T.due("of(" + h + ", 11)", x.of(h, 11), due[h][1]);
        }
    }

    private static void p08_byRulesAlone() {
        T.sentence(8, "12 TICKET, 13 RANK, 14 RELIEF, 15 1 if it MAY VOTE, else 0 (12 to 15 by RULES alone, BACK or "
            + "not).");
        LongStrike x = Valleys.of(1, 1);
        x.household(0, 0, 1, 0, 2);
        x.household(0, 0, 1, 1000, 50);
        Valleys.read(x, 0, "ticket 5 if will < 50; ticket 6; rank 3 if hungry = 1; vote if will = 0;");
        Valleys.read(x, 1, "relief 7 if mouths = 1;");
        x.days(1);
        T.due("BACK", x.of(0, 10), 1);
        int[][] due = {{5, 3, 7, 1}, {6, 9, 7, 0}};
        for (int h = 0; h < 2; h++) {
            for (int what = 12; what <= 15; what++) T.due("of(" + h + ", " + what + ")", x.of(h, what), due[h][what - 12]);
        }
    }

    private static void p08_bad() {
        T.sentence(8, "BAD: there is none such, another what.");
        int[][] wrong = {{-1, 0}, {4, 0}, {MIN, 0}, {MAX, 0}, {0, -1}, {0, 16}, {0, MIN}, {0, MAX}, {15, 5}};
        for (int[] w : wrong) T.refused(Promises.told("of", w), Valleys.SOME, x -> x.of(w[0], w[1]), BAD);
        T.due("of(15, 0) of sixteen", Valleys.FULL.get().of(15, 0), 3);
        T.due("of(16, 0) of sixteen", Valleys.FULL.get().of(16, 0), BAD);
        T.due("of(0, 0) of none", new LongStrike().of(0, 0), BAD);
    }

    // ---- 9: pitOf

    private static void p09_lostOrNone() {
        T.sentence(9, "2 the DAY on which it was LOST (NONE)");
        LongStrike x = Valleys.of(2, 0);
        x.pit(1, 10, 0, 9980);
        x.pit(0, 10, 0, 9990);
        T.due("VILLAGE", x.pitOf(0, 0), 1);
        T.due("not lost", x.pitOf(0, 2), NONE);
        Valleys.go(x, 998);
        T.due("9980 isn't above", x.pitOf(0, 2), NONE);
        x.days(1);
        T.due("lost on day 999", x.pitOf(0, 2), 999);
        T.due("9990 isn't above", x.pitOf(1, 2), NONE);
    }

    private static void p09_foreseen() {
        T.sentence(9, "4 on how many more DAYS it isn't LOST, if each goes as (1) by RULES of TODAY (500 at most; 0 if "
            + "it is LOST).");
        LongStrike x = Valleys.of(1, 0);
        x.pit(0, 1, 50, 499);
        x.pit(0, 1, 50, 500);
        x.pit(0, 1, 50, 9999);
        x.pit(0, 50, 50, 49);
        int[] due = {499, 500, 500, 0};
        for (int p = 0; p < 4; p++) T.due("pitOf(" + p + ", 4)", x.pitOf(p, 4), due[p]);
        x.days(1);
        int[] later = {498, 499, 500, 0};
        for (int p = 0; p < 4; p++) T.due("a day later: pitOf(" + p + ", 4)", x.pitOf(p, 4), later[p]);
        T.due("it is LOST", x.pitOf(3, 2), 1);
        T.due("asking changes no water", x.pitOf(0, 1), 1);
        Valleys.go(x, 498);
        T.due("on day 499", x.pitOf(0, 4), 0);
        T.due("not LOST on day 499", x.pitOf(0, 2), NONE);
        x.days(1);
        T.due("LOST on day 500", x.pitOf(0, 2), 500);
        Valleys.read(x, 0, "safety 3;");
        Valleys.read(x, 2, "safety 3;");
        T.due("it could be pumped dry, but is LOST", x.pitOf(0, 4), 0);
        T.due("it could be pumped dry, but is LOST", x.pitOf(3, 4), 0);
        T.due("the one that isn't", x.pitOf(2, 4), 500);
    }

    private static void p09_foreseenByRulesOfToday() {
        T.sentence(9, "if each goes as (1) by RULES of TODAY");
        LongStrike x = Valleys.of(1, 0);
        x.pit(0, 3, 2, 10);
        x.pit(0, 3, 3, 10);
        x.pit(0, 3, 4, 10);
        // 3 more a day, 1 more, none, 1 less
        int[][] due = {{0, 3, 3, 3}, {1, 10, 500, 500}, {2, 500, 500, 500}};
        for (int[] d : due) {
            Valleys.read(x, 0, "safety " + d[0] + ";");
            Valleys.read(x, 2, "safety 9;");
            for (int p = 0; p < 3; p++) T.due(d[0] + " men: pitOf(" + p + ", 4)", x.pitOf(p, 4), d[1 + p]);
        }
        Valleys.read(x, 0, "");
        x.days(3);
        T.due("water 9: lost tomorrow", x.pitOf(0, 4), 0);
        Valleys.read(x, 0, "safety 1;");
        T.due("9 and 1 a day", x.pitOf(0, 4), 1);
        T.due("beyond day 999, too", lateForeseen(), 400);
    }

    private static int lateForeseen() {
        LongStrike x = Valleys.LAST_DAY.get();
        x.pit(0, 1, 0, 400);
        return x.pitOf(1, 4);
    }

    private static void p09_bad() {
        T.sentence(9, "BAD: there is none such, another what.");
        int[][] wrong = {{-1, 0}, {2, 0}, {MIN, 0}, {MAX, 0}, {0, -1}, {0, 5}, {0, MIN}, {0, MAX}};
        for (int[] w : wrong) T.refused(Promises.told("pitOf", w), Valleys.SOME, x -> x.pitOf(w[0], w[1]), BAD);
        T.due("pitOf(3, 0) of four", Valleys.FULL.get().pitOf(3, 0), 3);
        T.due("pitOf(4, 0) of four", Valleys.FULL.get().pitOf(4, 0), BAD);
    }

    // ---- 10: shopOf

    private static void p10_bad() {
        T.sentence(10, "Of a SHOP: what = 0 VILLAGE, 1 CREDIT, 2 how much it lent. BAD: there is none such, another "
            + "what.");
        int[][] wrong = {{-1, 0}, {2, 0}, {MIN, 0}, {MAX, 0}, {0, -1}, {0, 3}, {0, MIN}, {0, MAX}};
        for (int[] w : wrong) T.refused(Promises.told("shopOf", w), Valleys.SOME, x -> x.shopOf(w[0], w[1]), BAD);
        LongStrike x = Valleys.of(2, 1);
        x.shop(1, 6);
        x.household(1, 0, 4, 0, 50);
        int[] lent = {4, 6, 6};
        for (int d : lent) {
            x.days(1);
            T.due("how much it lent", x.shopOf(0, 2), d);
            T.due("CREDIT stays", x.shopOf(0, 1), 6);
            T.due("VILLAGE", x.shopOf(0, 0), 1);
        }
        T.due("shopOf(4, 0) of four", Valleys.FULL.get().shopOf(4, 0), BAD);
    }

    // ---- 11: set

    private static void p11_atFirstAndMost() {
        T.sentence(11, "What = 0 THE COLD (0, 1), 1 BURN (0 to 999), 2 MILES (0 to 9), 10 + p WANT of a PIT (0 to 900) "
            + "is v: what it was (MILES are 9, WANT 50 at first, others 0).");
        LongStrike x = Valleys.of(1, 4);
        T.due("THE COLD at first", x.set(0, 1), 0);
        T.due("THE COLD", x.set(0, 0), 1);
        T.due("THE COLD", x.set(0, 0), 0);
        T.due("BURN at first", x.set(1, 999), 0);
        T.due("BURN", x.set(1, 0), 999);
        T.due("BURN", x.set(1, 1), 0);
        T.due("MILES at first", x.set(2, 0), 9);
        T.due("MILES", x.set(2, 9), 0);
        T.due("MILES", x.set(2, 4), 9);
        for (int p = 0; p < 4; p++) {
            T.due("WANT at first", x.set(10 + p, 900), 50);
            T.due("WANT", x.set(10 + p, 0), 900);
            T.due("WANT", x.set(10 + p, 100 + p), 0);
        }
        for (int p = 0; p < 4; p++) T.due("WANT of each", x.pitOf(p, 3), 100 + p);
    }

    private static void p11_bad() {
        T.sentence(11, "BAD: another what, no such PIT, or v isn't as told.");
        int[][] wrong = {{0, -1}, {0, 2}, {0, MIN}, {0, MAX}, {1, -1}, {1, 1000}, {1, MIN}, {1, MAX}, {2, -1}, {2, 10}, {2, MIN},
            {2, MAX}, {3, 1}, {9, 1}, {-1, 1}, {MIN, 1}, {MAX, 1}, {10, -1}, {10, 901}, {10, MIN}, {10, MAX}, {12, 1}, {13, 1},
            {14, 1}, {MIN + 10, 1}, {11, 901}};
        for (int[] w : wrong) T.refused(Promises.told("set", w), Valleys.SOME, x -> x.set(w[0], w[1]), BAD);
        T.due("set(13, 1) of four pits", Valleys.FULL.get().set(13, 1), 50);
        T.due("set(14, 1) of four pits", Valleys.FULL.get().set(14, 1), BAD);
        T.due("set(10, 1) without pits", new LongStrike().set(10, 1), BAD);
    }

    // ---- 12: gift

    private static void p12_leastAndMost() {
        T.sentence(12, "n (1 to 9999) come to THE FUND (fund true), or STOCK: how much there is (99999 at most).");
        for (boolean fund : new boolean[] {true, false}) {
            LongStrike x = new LongStrike();
            T.due("gift of 1", x.gift(fund, 1), 1);
            T.due("gift of 9999", x.gift(fund, 9999), 10000);
            for (int i = 2; i <= 9; i++) x.gift(fund, 9999);
            T.due("99991 and 7", x.gift(fund, 8), 10000 + 8 * 9999 + 8);
            T.due("many", x.many(fund ? 8 : 9), 90000);
            T.due("99998", x.gift(fund, 9998), 99998);
            T.due("99999", x.gift(fund, 1), 99999);
            T.due("99999 at most", x.gift(fund, 1), 99999);
            T.due("99999 at most", x.gift(fund, 9999), 99999);
            T.due("many", x.many(fund ? 8 : 9), 99999);
            T.due("the other one", x.many(fund ? 9 : 8), 0);
        }
    }

    private static void p12_bad() {
        T.sentence(12, "n (1 to 9999) come to THE FUND (fund true), or STOCK: how much there is (99999 at most). BAD.");
        for (int n : new int[] {0, 10000, -1, -9999, MIN, MAX}) {
            T.refused("gift(true, " + n + ")", Valleys.SOME, x -> x.gift(true, n), BAD);
            T.refused("gift(false, " + n + ")", Valleys.SOME, x -> x.gift(false, n), BAD);
        }
    }

    // ---- 13: ship

    private static void p13_howManyAreDue() {
        T.sentence(13, "A SHIP due on a DAY behind TODAY brings n (1 to 9999): how many are due yet (6 at most).");
        LongStrike x = new LongStrike();
        x.days(3);
        T.due("tomorrow", x.ship(4, 1), 1);
        T.due("the last day", x.ship(999, 9999), 2);
        T.due("tomorrow again", x.ship(4, 2), 3);
        x.days(1);
        T.due("two came", x.many(7), 1);
        T.due("STOCK", x.many(9), 3);
        for (int i = 2; i <= 6; i++) T.due("one more", x.ship(5, 10), i);
        T.due("a seventh", x.ship(5, 10), FULL);
        x.days(1);
        T.due("five came", x.many(9), 53);
        T.due("room again", x.ship(6, 10), 2);
        Valleys.go(x, 993);
        T.due("on day 998", x.many(7), 1);
        x.set(1, 0);
        x.days(1);
        T.due("it comes on day 999", x.many(9), 63 + 9999);
        T.due("none is due", x.many(7), 0);
    }

    private static void p13_bad() {
        T.sentence(13, "BAD: n isn't as told, or day is not behind TODAY, or above 999; FULL.");
        int[][] wrong = {{8, 0}, {8, 10000}, {8, -1}, {8, MIN}, {8, MAX}, {7, 1}, {6, 1}, {0, 1}, {-1, 1}, {MIN, 1}, {1000, 1},
            {MAX, 1}};
        for (int[] w : wrong) T.refused(Promises.told("ship", w), Valleys.SOME, x -> x.ship(w[0], w[1]), BAD);
        for (int day : new int[] {0, 998, 999, 1000}) {
            T.refused("ship(" + day + ", 1)", Valleys.LAST_DAY, x -> x.ship(day, 1), BAD);
        }
        T.due("day 0 on day 0", new LongStrike().ship(0, 1), BAD);
        T.due("day 1 on day 0", new LongStrike().ship(1, 1), 1);
    }

    private static void p13_full() {
        T.sentence(13, "how many are due yet (6 at most).");
        T.refused("a seventh", Valleys.FULL, x -> x.ship(100, 1), FULL);
        T.refused("BAD ahead of FULL", Valleys.FULL, x -> x.ship(7, 1), BAD);
        T.refused("BAD ahead of FULL", Valleys.FULL, x -> x.ship(100, 0), BAD);
        T.refused("BAD ahead of FULL", Valleys.FULL, x -> x.ship(1000, 1), BAD);
    }
}
