/** Promises 19 to 26, news, papers and lasting, with sections 4 and 5 of the terms: each test names its sentence. */
public final class Promise19To26Test {
    private static final Promises T = new Promises(Promise19To26Test.class);
    private static final int MIN = Integer.MIN_VALUE, MAX = Integer.MAX_VALUE;
    private static final int BAD = -1, FULL = -2, STATE = -4;
    private static final int UNION = 0, COUNTY = 1, COMPANY = 2;

    public static void main(String[] args) {
        T.run();
    }

    // ---- 19: news

    private static void p19_weights() {
        T.sentence(19, "TOLD in a VILLAGE TODAY, with a WEIGHT (-20 to 20).");
        int[] weights = {-20, -19, -1, 0, 1, 19, 20};
        for (int w : weights) {
            LongStrike x = Valleys.home(1, 1000, 50);
            T.due("news(0, " + w + ")", x.news(0, w), 0);
            x.days(1);
            T.due("WILL", x.of(0, 5), 51 + w);
        }
        LongStrike y = Valleys.of(6, 0);
        T.due("in the last village", y.news(5, 0), 0);
        T.due("the next number", y.news(0, 0), 1);
    }

    private static void p19_bad() {
        T.sentence(19, "NEWS: its number. BAD: there is no such VILLAGE, or weight isn't as told; FULL.");
        int[][] wrong = {{-1, 0}, {3, 0}, {MIN, 0}, {MAX, 0}, {0, -21}, {0, 21}, {0, MIN}, {0, MAX}, {9, 99}};
        for (int[] w : wrong) T.refused(Promises.told("news", w), Valleys.SOME, x -> x.news(w[0], w[1]), BAD);
        T.due("without a village", new LongStrike().news(0, 0), BAD);
    }

    private static void p19_full() {
        T.sentence(19, "NEWS, 12 at most, numbered as they come");
        LongStrike x = Valleys.of(1, 0);
        for (int i = 0; i < 12; i++) T.due("news", x.news(0, 1), i);
        T.due("a thirteenth", x.news(0, 1), FULL);
        T.due("many(5)", x.many(5), 12);
        T.refused("a thirteenth", Valleys.FULL, v -> v.news(0, 1), FULL);
        T.refused("BAD ahead of FULL", Valleys.FULL, v -> v.news(6, 1), BAD);
        T.refused("BAD ahead of FULL", Valleys.FULL, v -> v.news(0, 21), BAD);
        x.days(60);
        T.due("old news stay", x.news(0, 1), FULL);
    }

    // ---- 20: hears

    private static void p20_roadBehind() {
        T.sentence(20, "A VILLAGE HEARS it on the DAY that is ROAD behind");
        for (int road = 1; road <= 9; road++) {
            LongStrike x = Valleys.of(2, 1);
            x.household(1, 0, 1, 1000, 50);
            x.road(0, 1, road);
            x.days(4);
            x.news(0, 20);
            T.due("hears", x.hears(0, 0), 4 + road);
            for (int day = 5; day <= 14; day++) {
                x.days(1);
                T.due("WILL by a road of " + road + " on day " + day, x.of(0, 5), 50 + day + (day >= 4 + road ? 20 : 0));
            }
            T.due("heard", x.hears(0, 0), 4 + road);
        }
    }

    private static void p20_whereItIsTold() {
        T.sentence(20, "in the VILLAGE where it is TOLD on the DAY behind TODAY.");
        LongStrike x = Valleys.of(2, 1);
        x.household(1, 0, 1, 1000, 50);
        x.road(0, 1, 5);
        x.days(2);
        x.news(1, 10);
        T.due("hears", x.hears(0, 0), 3);
        T.due("not on the day itself", x.of(0, 5), 52);
        x.days(1);
        T.due("the day behind", x.of(0, 5), 63);
        x.days(9);
        T.due("once", x.of(0, 5), 72);
        LongStrike y = Valleys.of(2, 1);
        y.household(1, 0, 1, 1000, 50);
        y.days(2);
        y.news(1, 10);
        y.household(0, 0, 1, 1000, 50);
        T.due("one that came later hears, too", y.hears(1, 0), 3);
        y.days(1);
        T.due("WILL", y.of(1, 5), 61);
    }

    private static void p20_allHouseholdsOfAVillage() {
        T.sentence(20, "its HOUSEHOLDS do on that DAY");
        LongStrike x = Valleys.of(3, 1);
        for (int i = 0; i < 16; i++) x.household(i % 3, 0, 1, 1000, 50);
        x.road(0, 1, 3);
        x.road(0, 2, 2);
        x.road(1, 2, 9);
        x.news(0, 10);
        x.news(1, 20);
        int[][] due = {{11, 21, 1}, {12, 22, 12}, {33, 33, 13}, {34, 34, 14}};
        for (int day = 0; day < 4; day++) {
            x.days(1);
            for (int i = 0; i < 16; i++) T.due("household " + i + " on day " + (day + 1), x.of(i, 5), 50 + due[day][i % 3]);
        }
        x.days(5);
        for (int i = 0; i < 16; i++) T.due("household " + i + " on day 9", x.of(i, 5), 89);
    }

    private static void p20_notByWayOfOthers() {
        T.sentence(20, "(not by way of others; by ROADS as they are on that DAY, asked anew each DAY: it may be heard "
            + "again, or never)");
        LongStrike x = Valleys.of(3, 1);
        x.household(2, 0, 1, 1000, 50);
        x.road(0, 2, 6);
        x.news(0, 20);
        x.days(5);
        T.due("no shorter way over village 1", x.of(0, 5), 55);
        x.days(1);
        T.due("by its own road", x.of(0, 5), 76);
    }

    private static void p20_askedAnew() {
        T.sentence(20, "by ROADS as they are on that DAY, asked anew each DAY: it may be heard again, or never");
        LongStrike x = Valleys.of(2, 1);
        x.household(1, 0, 1, 1000, 10);
        x.news(0, 10);
        x.days(1);
        T.due("heard on day 1", x.of(0, 5), 21);
        x.road(0, 1, 3);
        T.due("as roads are now", x.hears(0, 0), 3);
        x.days(1);
        T.due("not on day 2", x.of(0, 5), 22);
        x.days(1);
        T.due("again on day 3", x.of(0, 5), 33);
        x.road(0, 1, 9);
        x.days(4);
        x.road(0, 1, 7);
        x.days(5);
        T.due("day 7 was over: never again", x.of(0, 5), 42);
        LongStrike y = Valleys.of(2, 1);
        y.household(1, 0, 1, 1000, 10);
        y.road(0, 1, 9);
        y.news(0, 10);
        y.days(5);
        y.road(0, 1, 5);
        y.days(9);
        T.due("never", y.of(0, 5), 24);
        T.due("the day is told", y.hears(0, 0), 5);
    }

    private static void p20_whoHearsNothing() {
        T.sentence(20, "A HOUSEHOLD that is EVICTED HEARS nothing.");
        LongStrike x = Valleys.of(1, 1);
        for (int i = 0; i < 2; i++) x.household(0, 0, 1, 1990, 50);
        Valleys.read(x, COUNTY, "relief 50;");
        x.days(7);
        Valleys.read(x, COMPANY, "evict 0;");
        x.paper(0);
        x.evict(0);
        x.news(0, -20);
        x.news(0, 7);
        x.days(1);
        T.due("evicted", x.of(0, 5), 58);
        T.due("not evicted", x.of(1, 5), 58 - 13);
    }

    private static void p20_dayIsTold() {
        T.sentence(20, "The DAY on which a HOUSEHOLD HEARS NEWS, or heard it, by ROADS as they are.");
        LongStrike x = Valleys.of(2, 1);
        x.household(0, 0, 1, 1990, 50);
        x.household(1, 0, 1, 1990, 50);
        Valleys.go(x, 998);
        x.road(0, 1, 2);
        x.news(0, 1);
        T.due("on day 999", x.hears(0, 0), 999);
        T.due("beyond 999", x.hears(1, 0), 1000);
        x.days(1);
        x.news(1, 1);
        T.due("on day 1001", x.hears(0, 1), 1001);
        T.due("on day 1000", x.hears(1, 1), 1000);
        LongStrike y = Valleys.of(2, 1);
        for (int i = 0; i < 2; i++) y.household(1, 0, 1, 0, 2);
        Valleys.read(y, COMPANY, "evict 0;");
        y.paper(0);
        y.evict(0);
        y.days(1);
        y.road(0, 1, 4);
        y.news(0, 1);
        T.due("of one that is EVICTED and BACK", y.hears(0, 0), 5);
        T.due("of one that is BACK", y.hears(1, 0), 5);
    }

    private static void p20_bad() {
        T.sentence(20, "BAD: there is no such HOUSEHOLD, NEWS.");
        int[][] wrong = {{-1, 0}, {4, 0}, {MIN, 0}, {MAX, 0}, {0, -1}, {0, 2}, {0, MIN}, {0, MAX}};
        for (int[] w : wrong) T.refused(Promises.told("hears", w), Valleys.SOME, x -> x.hears(w[0], w[1]), BAD);
        T.due("the last ones", Valleys.FULL.get().hears(15, 11), 1);
        T.due("no twelfth", Valleys.FULL.get().hears(15, 12), BAD);
        T.due("no sixteenth", Valleys.FULL.get().hears(16, 11), BAD);
    }

    // ---- 21: press

    private static void p21_tellsWhatThereIs() {
        T.sentence(21, "PRESS tells what THE FUND (fund true), or STOCK is, as it is TODAY: that.");
        LongStrike x = Valleys.home(1, 990, 20);
        T.due("nothing yet", x.press(true), 0);
        T.due("nothing yet", x.press(false), 0);
        x.gift(true, 7);
        x.gift(false, 30);
        x.set(1, 10);
        T.due("THE FUND", x.press(true), 7);
        T.due("STOCK", x.press(false), 30);
        x.days(1);
        T.due("STOCK as it is", x.press(false), 20);
        T.due("THE FUND as it is", x.press(true), 7);
        for (int i = 0; i < 11; i++) {
            x.gift(true, 9999);
            x.gift(false, 9999);
        }
        T.due("the most", x.press(true), 99999);
        T.due("the most", x.press(false), 99999);
    }

    private static void p21_latestTold() {
        T.sentence(21, "the company believes that THE FUND is what was TOLD latest of it (PRESS of the fund), the "
            + "valley that STOCK is what was TOLD latest");
        LongStrike x = Valleys.home(1, 990, 20);
        Valleys.read(x, UNION, "ticket 7;");
        x.set(1, 10);
        x.gift(false, 30);
        T.due("what isn't told is 0", x.last(3), 0);
        T.due("what isn't told is 0", x.last(2), 10);
        x.press(false);
        T.due("told", x.last(3), 3);
        T.due("of the fund nothing", x.last(2), 10);
        x.gift(true, 7);
        T.due("not told yet", x.last(2), 10);
        x.press(true);
        T.due("told: 6 hungry days, 7 fed ones, 8 hungry ones", x.last(2), 21);
        x.gift(false, 30);
        T.due("told earlier", x.last(3), 3);
        x.press(true);
        T.due("told earlier", x.last(3), 3);
        x.press(false);
        T.due("told anew", x.last(3), 6);
    }

    // ---- 22: paper

    private static void p22_numbers() {
        T.sentence(22, "PAPERS, 12 at most, numbered as they come: a HOUSEHOLD was told on a DAY (TODAY) that it must "
            + "go.");
        LongStrike x = Valleys.of(1, 1);
        for (int i = 0; i < 16; i++) x.household(0, 0, 1, 1000, 50);
        for (int i = 0; i < 12; i++) T.due("paper", x.paper(15 - i / 2), i);
        T.due("a thirteenth", x.paper(0), FULL);
        T.due("many(6)", x.many(6), 12);
        T.refused("a thirteenth", Valleys.FULL, v -> v.paper(0), FULL);
        T.refused("a thirteenth", Valleys.FULL, v -> v.paper(15), FULL);
    }

    private static void p22_bad() {
        T.sentence(22, "BAD: there is no such HOUSEHOLD; STATE: it is EVICTED, or BACK; FULL.");
        for (int h : new int[] {-1, 4, MIN, MAX}) T.refused("paper(" + h + ")", Valleys.SOME, x -> x.paper(h), BAD);
        T.refused("EVICTED", Valleys.SOME, x -> x.paper(2), STATE);
        T.refused("BACK", Valleys.SOME, x -> x.paper(1), STATE);
        T.due("without households", Valleys.of(1, 1).paper(0), BAD);
    }

    private static void p22_stateAheadOfFull() {
        T.sentence(22, "of several the first named by the call: BAD (-1) there is no such thing, or a number is not as "
            + "told; FULL (-2); NONE (-3); STATE (-4)");
        T.refused("EVICTED: STATE ahead of FULL", Valleys.FULL, x -> x.paper(2), STATE);
        T.refused("BACK: STATE ahead of FULL", Valleys.FULL, x -> x.paper(4), STATE);
        for (int h : new int[] {-1, 16, MIN, MAX}) T.refused("BAD ahead of both", Valleys.FULL, x -> x.paper(h), BAD);
    }

    // ---- 23: evict

    private static void p23_onJustThatDay() {
        T.sentence(23, "It is EVICTED on the DAY on which EVICT WEEKS (of 7 DAYS, by RULES of TODAY, when evict() is "
            + "asked) are over: evict() on just that DAY does so");
        for (int weeks : new int[] {0, 1, 2, 12, 100}) {
            LongStrike x = Valleys.home(1, 1990, 50);
            x.days(3);
            T.due("paper", x.paper(0), 0);
            if (weeks != 12) Valleys.read(x, COMPANY, "evict " + weeks + ";");
            if (weeks > 0) {
                T.due("on the day it was told", x.evict(0), 0);
                Valleys.go(x, 7 * weeks - 1);
                T.due("a day earlier", x.evict(0), 0);
                T.due("a day earlier nothing is so", x.of(0, 11), 0);
                T.due("the garden is there", x.of(0, 3), 1);
                x.days(1);
            }
            T.due("on just that day, " + weeks + " weeks", x.evict(0), 1);
            T.due("EVICTED", x.of(0, 11), 1);
        }
        LongStrike y = Valleys.home(1, 1990, 50);
        y.paper(0);
        Valleys.read(y, COMPANY, "evict 999;");
        Valleys.go(y, 999);
        T.due("999 weeks", y.evict(0), 0);
    }

    private static void p23_voidADayLater() {
        T.sentence(23, "a DAY later it is VOID (from the evict() that finds it so; a DAY earlier nothing is so).");
        for (int weeks : new int[] {0, 1, 2}) {
            LongStrike x = Valleys.home(1, 1990, 50);
            Valleys.read(x, COMPANY, "evict " + weeks + ";");
            x.paper(0);
            x.days(7 * weeks + 1);
            T.due("a day later", x.evict(0), 2);
            T.due("not EVICTED", x.of(0, 11), 0);
            T.due("its garden stays", x.of(0, 3), 1);
            x.days(5);
            T.due("later", x.evict(0), 2);
        }
    }

    private static void p23_voidFromThenOn() {
        T.sentence(23, "2 it is VOID (from then on, too: 2).");
        LongStrike y = Valleys.of(1, 1);
        for (int i = 0; i < 3; i++) y.household(0, 0, 1, 1990, 50);
        for (int i = 0; i < 3; i++) y.paper(i);
        Valleys.read(y, COMPANY, "evict 1;");
        y.days(8);
        T.due("found void", y.evict(0), 2);
        Valleys.read(y, COMPANY, "evict 2;");
        T.due("from then on, by other rules, too", y.evict(0), 2);
        T.due("nobody found that one void", y.evict(1), 0);
        y.days(6);
        T.due("on the day of the other rules, too", y.evict(0), 2);
        T.due("that one is on its day", y.evict(1), 1);
        y.days(1);
        T.due("a day later", y.evict(2), 2);
        T.due("a new paper for the household of the void one", y.paper(0), 3);
        Valleys.read(y, COMPANY, "evict 0;");
        T.due("is none", y.evict(3), 1);
    }

    private static void p23_byRulesOfToday() {
        T.sentence(23, "by RULES of TODAY, when evict() is asked");
        LongStrike x = Valleys.home(1, 1990, 50);
        Valleys.read(x, COMPANY, "evict 9;");
        x.paper(0);
        x.days(7);
        T.due("nine weeks", x.evict(0), 0);
        Valleys.read(x, COMPANY, "evict 1;");
        T.due("one week", x.evict(0), 1);
        LongStrike y = Valleys.home(1, 1990, 50);
        Valleys.read(y, COMPANY, "evict 1;");
        y.paper(0);
        y.days(7);
        Valleys.read(y, COMPANY, "");
        T.due("twelve weeks without a line", y.evict(0), 0);
        y.days(60);
        y.days(16);
        T.due("a day earlier", y.evict(0), 0);
        y.days(1);
        T.due("twelve weeks are over", y.evict(0), 1);
    }

    private static void p23_noGarden() {
        T.sentence(23, "Who is EVICTED has no GARDEN.");
        LongStrike x = Valleys.home(3, 9990, 50);
        Valleys.read(x, COMPANY, "evict 0;");
        x.paper(0);
        T.due("GARDEN", x.of(0, 3), 9);
        T.due("evict(0)", x.evict(0), 1);
        T.due("GARDEN", x.of(0, 3), 0);
        x.shop(0, 50);
        x.days(2);
        T.due("it owes all meals", x.of(0, 7), 6);
    }

    private static void p23_state() {
        T.sentence(23, "BAD: there is no such PAPER; STATE: the HOUSEHOLD is EVICTED already, or BACK.");
        for (int p : new int[] {-1, 3, MIN, MAX}) T.refused("evict(" + p + ")", Valleys.SOME, x -> x.evict(p), BAD);
        T.due("evict(0) without papers", Valleys.home(1, 1990, 50).evict(0), BAD);
        T.due("evict(12) of twelve", Valleys.FULL.get().evict(12), BAD);
        T.refused("EVICTED already", Valleys.SOME, x -> x.evict(0), STATE);
        T.refused("EVICTED already", Valleys.FULL, x -> x.evict(2), STATE);
        T.refused("BACK", Valleys.FULL, x -> x.evict(4), STATE);
        LongStrike x = Valleys.home(1, 1990, 50);
        for (int i = 0; i < 3; i++) x.paper(0);
        Valleys.read(x, COMPANY, "evict 0;");
        T.due("by the second paper", x.evict(1), 1);
        for (int p = 0; p < 3; p++) T.due("another paper for it", x.evict(p), STATE);
        x.days(1);
        for (int p = 0; p < 3; p++) T.due("a day later, too", x.evict(p), STATE);
        LongStrike y = Valleys.home(1, 0, 2);
        y.paper(0);
        y.paper(0);
        T.due("too early", y.evict(0), 0);
        y.days(1);
        T.due("BACK", y.evict(0), STATE);
        Valleys.read(y, COMPANY, "evict 0;");
        T.due("BACK ahead of VOID", y.evict(1), STATE);
    }

    private static void p23_tooEarlyChangesNothing() {
        T.sentence(23, "0 it is too early");
        T.refused("evict(1)", EARLY, x -> x.evict(1), 0);
        T.refused("evict(2)", EARLY, x -> x.evict(2), 0);
    }

    private static final java.util.function.Supplier<LongStrike> EARLY = () -> {
        LongStrike x = Valleys.SOME.get();
        x.read(-1);
        Valleys.read(x, COMPANY, "evict 3; safety 1;");
        return x;
    };

    // ---- 24: draws

    private static void p24_wereItSharedNow() {
        T.sentence(24, "What a HOUSEHOLD would draw of THE FUND, were it SHARED now.");
        LongStrike x = Valleys.of(1, 1);
        for (int i = 0; i < 5; i++) x.household(0, 0, i + 1, i == 4 ? 0 : 9990, i == 4 ? 1 : 50);
        for (int i = 0; i < 5; i++) T.due("without rules", x.draws(i), 0);
        Valleys.read(x, UNION, "rank 0 if mouths=1; rank 2; ticket 6 if mouths=1; ticket 4 if mouths=2; ticket 0 if mouths=3; ticket 5;");
        int[][] due = {{0, 0, 0, 0, 0, 0}, {5, 5, 0, 0, 0, 0}, {1, 6, 0, 0, 0, 0}, {1, 6, 1, 0, 0, 0}, {2, 6, 1, 0, 1, 1}, {3, 6, 2, 0, 2, 2},
            {7, 6, 4, 0, 5, 4}, {1, 6, 4, 0, 5, 5}, {1, 6, 4, 0, 5, 5}};
        int fund = 0;
        for (int[] d : due) {
            if (d[0] > 0) x.gift(true, d[0]);
            fund += d[0];
            for (int i = 0; i < 5; i++) T.due("draws(" + i + ") of " + fund, x.draws(i), d[1 + i]);
        }
        T.due("asking takes nothing", x.many(8), fund);
        x.days(1);
        T.due("BACK", x.of(4, 10), 1);
        T.due("it draws no ticket", x.draws(4), 0);
        T.due("its ticket", x.of(4, 12), 5);
    }

    private static void p24_asTheDayShares() {
        T.sentence(24, "were it SHARED now.");
        for (int fund : new int[] {1, 7, 19, 40, 55, 79, 80, 81, 200}) {
            LongStrike x = Valleys.of(1, 1);
            for (int i = 0; i < 16; i++) x.household(0, 0, 1 + i % 9, 9990, 50);
            Valleys.read(x, UNION, "ticket 3 if mouths<3; ticket 7 if mouths<6; ticket 0 if mouths=7; ticket 6; rank 4 if mouths=4; rank 3 if mouths>5; rank 5;");
            x.gift(true, fund);
            x.days(6);
            int[] would = new int[16];
            int all = 0;
            for (int i = 0; i < 16; i++) {
                would[i] = x.draws(i);
                all += would[i];
            }
            x.days(1);
            for (int i = 0; i < 16; i++) T.due("household " + i + " of " + fund, x.of(i, 6), would[i]);
            T.due("THE FUND of " + fund, x.many(8), fund - all);
        }
    }

    private static void p24_nothingAnyMore() {
        T.sentence(24, "What a HOUSEHOLD would draw of THE FUND, were it SHARED now.");
        LongStrike x = Valleys.of(1, 1);
        x.household(0, 0, 1, 9990, 50);
        x.household(0, 0, 2, 990, 1);
        Valleys.read(x, UNION, "ticket 5; rank 3 if mouths = 2;");
        x.gift(true, 99);
        T.due("its ticket", x.draws(0), 5);
        T.due("its ticket", x.draws(1), 5);
        x.days(1);
        T.due("BACK, alone of its rank", x.draws(1), 0);
        Valleys.read(x, UNION, "rank 3 if mouths = 2;");
        T.due("no tickets any more", x.draws(0), 0);
        x.days(6);
        T.due("nothing was drawn", x.of(0, 6), 0);
    }

    private static void p24_largestParts() {
        T.sentence(24, "else each its part (by TICKETS) of what there is, the rest away");
        LongStrike x = Valleys.of(1, 1);
        for (int i = 0; i < 16; i++) x.household(0, 0, 9, 9990, 50);
        Valleys.read(x, UNION, "ticket 999;");
        for (int i = 0; i < 2; i++) x.gift(true, 7991);
        // 15982 of 15984: 998.875 each, 14 of the 16 get one more
        for (int i = 0; i < 16; i++) T.due("draws(" + i + ")", x.draws(i), i < 14 ? 999 : 998);
    }

    private static void p24_bad() {
        T.sentence(24, "BAD: there is none such.");
        for (int h : new int[] {-1, 4, MIN, MAX}) T.refused("draws(" + h + ")", Valleys.SOME, x -> x.draws(h), BAD);
        T.due("draws(16) of sixteen", Valleys.FULL.get().draws(16), BAD);
        T.due("draws(0) of none", new LongStrike().draws(0), BAD);
        T.changesNothing("draws(0)", Valleys.SOME, x -> x.draws(0));
    }

    // ---- 25: least

    private static void p25_ofRankOrLess() {
        T.sentence(25, "each HOUSEHOLD that isn't BACK of RANK n, or less, drew all of its TICKET (0, if it would).");
        LongStrike x = Valleys.of(1, 1);
        for (int i = 0; i < 5; i++) x.household(0, 0, i + 1, i == 4 ? 0 : 9990, i == 4 ? 1 : 50);
        Valleys.read(x, UNION, "rank 0 if mouths=1; rank 3 if mouths=2; rank 8 if mouths=3; ticket 4 if mouths=1; ticket 10;");
        int[] due = {4, 4, 4, 14, 14, 14, 14, 14, 24, 44};
        for (int n = 0; n <= 9; n++) T.due("least(" + n + ")", x.least(n), due[n]);
        x.gift(true, 4);
        for (int n = 0; n <= 9; n++) T.due("least(" + n + ") with a fund of 4", x.least(n), due[n] - 4);
        x.gift(true, 10);
        for (int n = 0; n <= 9; n++) T.due("least(" + n + ") with a fund of 14", x.least(n), Math.max(0, due[n] - 14));
        x.days(1);
        T.due("who is BACK needs none", x.least(9), 20);
        x.gift(true, 19);
        T.due("one lacks", x.least(9), 1);
        x.gift(true, 1);
        T.due("0, if it would", x.least(9), 0);
        x.gift(true, 1);
        T.due("0, if it would", x.least(9), 0);
    }

    private static void p25_thatMuchIsEnough() {
        T.sentence(25, "LEAST GIFT: the least that THE FUND must have more so that, were it SHARED now (as in (2)), "
            + "each HOUSEHOLD");
        for (int n = 0; n <= 9; n++) {
            LongStrike x = Valleys.of(1, 1);
            for (int i = 0; i < 9; i++) x.household(0, 0, i + 1, 9990, 50);
            Valleys.read(x, UNION, "ticket 0 if mouths=5; ticket 9; rank 2 if mouths<4; rank 7 if mouths<6; rank 4;");
            x.gift(true, 5);
            int least = x.least(n);
            T.due("least(" + n + ")", least, n < 2 ? 0 : n < 4 ? 22 : n < 7 ? 58 : 67);
            if (least > 1) x.gift(true, least - 1);
            T.due("one lacks yet", x.least(n), least > 0 ? 1 : 0);
            if (least > 0) x.gift(true, 1);
            T.due("enough", x.least(n), 0);
            for (int h = 0; h < 9; h++) {
                if (x.of(h, 13) <= n) T.due("household " + h + " draws all", x.draws(h), x.of(h, 12));
            }
        }
    }

    private static void p25_bad() {
        T.sentence(25, "LEAST GIFT. BAD: n isn't 0 to 9.");
        for (int n : new int[] {-1, 10, MIN, MAX}) T.refused("least(" + n + ")", Valleys.SOME, x -> x.least(n), BAD);
        for (int n = 0; n <= 9; n++) T.due("least(" + n + ") of nobody", new LongStrike().least(n), 0);
    }

    // ---- 26: last

    private static void p26_fewerThanHalf() {
        T.sentence(26, "till for the first time fewer HOUSEHOLDS than half of all (twice as many are fewer than all) "
            + "aren't BACK");
        for (int all = 1; all <= 16; all++) {
            LongStrike x = Valleys.of(1, 1);
            // one is back behind a day, the next one behind two days, and so on
            for (int i = 0; i < all; i++) x.household(0, 0, 1, 990, 2 * (i + 1));
            int must = all / 2 + 1;
            T.due(all + " households", x.last(0), must);
            if (must > 1) {
                x.days(must - 1);
                T.due("a day is left", x.last(0), 1);
                T.due("that many are BACK", x.many(16), must - 1);
                x.days(1);
            } else {
                x.days(1);
            }
            T.due("0: it is now", x.last(0), 0);
            x.days(1);
            T.due("0 a day later", x.last(0), 0);
        }
    }

    private static void p26_hundredTwentyAtMost() {
        T.sentence(26, "behind how many DAYS that is so (0: it is now; 120 at most; beyond 999, too).");
        LongStrike x = new LongStrike();
        T.due("nobody is half of nobody", x.last(0), 120);
        T.due("nobody is half of nobody", x.last(2), 120);
        LongStrike y = Valleys.home(1, 1990, 0);
        T.due("fed for good", y.last(0), 120);
        // a shop feeds it for so many days; then 50 more till its will of 99 is 0
        int[][] due = {{68, 118}, {69, 119}, {70, 120}, {71, 120}, {72, 120}, {999, 120}};
        for (int[] d : due) {
            LongStrike z = Valleys.of(1, 1);
            z.shop(0, d[0]);
            z.household(0, 0, 1, 990, 99);
            T.due("fed for " + d[0] + " days", z.last(0), d[1]);
            T.due("as the company believes", z.last(2), d[1]);
        }
        LongStrike end = Valleys.LAST_DAY.get();
        end.household(0, 0, 1, 990, 99);
        end.household(0, 0, 1, 990, 60);
        T.due("beyond 999, too", end.last(0), 50);
        T.due("TODAY stays", end.many(0), 999);
    }

    private static void p26_asEachDayGoes() {
        T.sentence(26, "as if each DAY went as in 3 (without (1), (4), NEWS, PAPERS)");
        LongStrike x = Valleys.home(1, 990, 20);
        T.due("hungry", x.last(0), 10);
        x.news(0, -20);
        x.news(0, -20);
        T.due("without NEWS", x.last(0), 10);
        x.news(0, 20);
        x.news(0, 20);
        x.news(0, 20);
        T.due("without NEWS", x.last(0), 10);
        LongStrike y = Valleys.home(1, 1990, 1);
        y.paper(0);
        Valleys.read(y, COMPANY, "evict 1;");
        T.due("without PAPERS", y.last(0), 120);
        LongStrike z = Valleys.home(1, 20, 20);
        T.due("no cold is told", z.last(0), 10);
        z.set(0, 1);
        // 2 a day while there is coal: 18, 16; then 3 a day: 13, 10, 7, 4, 1, 0
        T.due("coal, then cold", z.last(0), 8);
        T.due("COAL stays", z.of(0, 4), 2);
    }

    private static void p26_withFundAndRelief() {
        T.sentence(26, "as if each DAY went as in 3");
        LongStrike x = Valleys.home(1, 990, 20);
        Valleys.read(x, UNION, "ticket 7;");
        x.gift(true, 14);
        // 6 hungry days: 8; 14 fed days from day 7 on: 22; 11 hungry ones
        T.due("two weeks of tickets", x.last(0), 31);
        Valleys.read(x, COUNTY, "relief 1 if hungry > 15;");
        T.due("relief that comes later", x.last(0), 31);
        x.days(5);
        T.due("five days later", x.last(0), 26);
        T.due("the fund stays", x.many(8), 14);
        Valleys.read(x, COUNTY, "relief 1;");
        // day 5: 10; day 6: 8; 8, 8 and 1 meals from day 7 on feed it till day 23: 25; day 27: 17; day 28 fed: 18; day 34: 6;
        // day 35 fed: 7; day 39: 0
        T.due("relief, too", x.last(0), 34);
        T.due("no relief was eaten", x.of(0, 6), 0);
    }

    private static void p26_byVillagesAndPits() {
        T.sentence(26, "as if each DAY went as in 3 (without (1), (4), NEWS, PAPERS)");
        LongStrike x = Valleys.of(3, 2);
        x.shop(1, 3);
        x.shop(2, 6);
        x.household(2, 1, 1, 990, 4);
        x.household(1, 0, 1, 990, 4);
        x.household(0, 1, 1, 1990, 4);
        // the first one has 6 days on credit: 10, and 5 hungry ones; the second one is BACK by then: 3, 7 and 4
        T.due("shops of their villages", x.last(0), 11);
        Valleys.read(x, COUNTY, "relief 2 if village = 2; relief 50 if village = 0;");
        // the first one on day 6: 10; fed on days 7 and 8: 12; day 13: 2; fed on days 14 and 15: 4; day 17: 0
        T.due("relief by village", x.last(0), 17);
        Valleys.read(x, COUNTY, "relief 2 if pit = 1; relief 99;");
        T.due("relief by pit: the second one lives long", x.last(0), 120);
        Valleys.read(x, COUNTY, "");
        x.gift(true, 3);
        Valleys.read(x, UNION, "ticket 3 if pit = 1 and mouths = 1; rank 1 if village = 0; rank 0;");
        T.due("tickets by pit, ranks by village: 6, 3 more and 7", x.last(0), 16);
        LongStrike y = Valleys.of(1, 1);
        y.shop(0, 4);
        y.shop(0, 3);
        y.household(0, 0, 2, 990, 9);
        Valleys.read(y, COUNTY, "relief 14 if owes > 6;");
        // 3 fed days: 12; 3 hungry ones: 6; 7 are owed: fed for good
        T.due("both shops' credit is owed", y.last(0), 120);
        y.days(5);
        T.due("from what it is on day 5", y.last(0), 120);
        Valleys.read(y, COUNTY, "relief 14 if owes > 7;");
        T.due("never that much", y.last(0), 4);
    }

    private static void p26_whatIsntToldIsZero() {
        T.sentence(26, "what isn't told is 0.");
        LongStrike x = Valleys.home(1, 990, 20);
        Valleys.read(x, UNION, "ticket 7;");
        Valleys.read(x, COUNTY, "relief 7 if hungry < 7;");
        x.gift(true, 99);
        // 6 hungry days: 8; 7 fed ones by relief: 15; relief again for it was hungry for 6 days alone
        T.due("relief alone feeds it", x.last(2), 120);
        Valleys.read(x, COUNTY, "relief 6 if hungry < 7;");
        // 6 hungry days: 8; 6 fed: 14; day 13 hungry: 12; no relief any more: 6 days
        T.due("no meal of the fund", x.last(2), 19);
        x.set(1, 3);
        T.due("no stock", x.last(3), 0);
    }

    private static void p26_shipsByToday() {
        T.sentence(26, "by (4) alone (with the SHIPS of that DAY).");
        LongStrike x = new LongStrike();
        x.gift(false, 40);
        x.set(1, 10);
        x.ship(5, 10);
        x.ship(9, 10);
        x.keep();
        T.due("on day 0: a day late", x.last(1), 4);
        x.gift(false, 1);
        T.due("on day 0: 1 on day 4, 10 by the ship of day 5, 0", x.last(1), 6);
        x.days(3);
        T.due("on day 3", x.last(1), 3);
        x.gift(false, 30);
        T.due("on day 3: 1 on day 8, 10 by the ship of day 9, 0", x.last(1), 7);
    }

    private static void p26_companyHolds() {
        T.sentence(26, "behind how many DAYS STOCK is 0 for the first time (0: it is now; 120 at most), by (4) alone "
            + "(with the SHIPS of that DAY).");
        int[][] due = {{0, 0, 0}, {0, 5, 0}, {1, 0, 120}, {1, 1, 1}, {1, 999, 1}, {10, 10, 1}, {11, 10, 2}, {119, 1, 119}, {120, 1, 120},
            {121, 1, 120}, {9999, 1, 120}, {9999, 999, 11}};
        for (int[] d : due) {
            LongStrike x = new LongStrike();
            if (d[0] > 0) x.gift(false, d[0]);
            x.set(1, d[1]);
            T.due("STOCK " + d[0] + ", BURN " + d[1], x.last(1), d[2]);
        }
        LongStrike y = new LongStrike();
        y.gift(false, 10);
        y.set(1, 5);
        y.ship(3, 5);
        T.due("a ship too late", y.last(1), 2);
        y.ship(2, 1);
        T.due("a ship on that day; on the next one it is burnt, and a ship comes", y.last(1), 4);
        y.ship(1, 2);
        T.due("a ship earlier: 7, 3, 5, 0", y.last(1), 4);
        T.due("STOCK stays", y.many(9), 10);
        T.due("SHIPS stay", y.many(7), 3);
        LongStrike z = new LongStrike();
        z.ship(1, 100);
        T.due("0: it is now", z.last(1), 0);
        LongStrike e = Valleys.LAST_DAY.get();
        e.gift(false, 77);
        e.set(1, 1);
        T.due("beyond 999", e.last(1), 77);
        LongStrike m = new LongStrike();
        for (int i = 0; i < 11; i++) m.gift(false, 9999);
        m.set(1, 999);
        for (int i = 0; i < 6; i++) m.ship(1 + i, 9999);
        // 99999 at most on days 1 to 6, then 999 a day: 100 days more and a part of a day
        T.due("99999 at most", m.last(1), 6 + 101);
    }

    private static void p26_valleyBelieves() {
        T.sentence(26, "the valley that STOCK is what was TOLD latest (PRESS of the stock; without SHIPS); what isn't "
            + "told is 0.");
        LongStrike x = new LongStrike();
        x.set(1, 5);
        T.due("not told", x.last(3), 0);
        x.gift(false, 20);
        T.due("not told", x.last(3), 0);
        x.press(false);
        T.due("told", x.last(3), 4);
        for (int i = 1; i <= 6; i++) x.ship(i, 50);
        T.due("without SHIPS", x.last(3), 4);
        T.due("with SHIPS", x.last(1), 64);
        x.set(1, 20);
        T.due("BURN as it is", x.last(3), 1);
        x.set(1, 0);
        T.due("120 at most", x.last(3), 120);
        x.set(1, 5);
        x.days(2);
        T.due("as TOLD, not a day less", x.last(3), 4);
    }

    private static void p26_companyBelieves() {
        T.sentence(26, "the company believes that THE FUND is what was TOLD latest of it (PRESS of the fund)");
        LongStrike x = Valleys.home(1, 990, 20);
        Valleys.read(x, UNION, "ticket 7;");
        x.gift(true, 14);
        T.due("what isn't told is 0", x.last(2), 10);
        x.press(true);
        T.due("told", x.last(2), 31);
        x.days(7);
        T.due("THE FUND", x.many(8), 7);
        // a will of 9, six meals in the larder
        T.due("as it is: 6 fed, 7 more fed, 11 hungry", x.last(0), 24);
        T.due("as the company believes: 6 fed, 14 more fed, 15 hungry", x.last(2), 35);
        x.press(true);
        T.due("told anew", x.last(2), 24);
    }

    private static void p26_changesNothing() {
        T.sentence(26, "How many more DAYS what = 0 the valley can hold, 1 the company, 2 the valley as the company "
            + "BELIEVES, 3 the company as the valley BELIEVES.");
        for (int what = 0; what <= 3; what++) {
            int asked = what;
            T.changesNothing("last(" + what + ")", Valleys.SOME, x -> x.last(asked));
            T.changesNothing("last(" + what + ")", Valleys.FULL, x -> x.last(asked));
        }
    }

    private static void p26_bad() {
        T.sentence(26, "BAD: another what.");
        for (int what : new int[] {-1, 4, MIN, MAX}) T.refused("last(" + what + ")", Valleys.SOME, x -> x.last(what), BAD);
    }
}
