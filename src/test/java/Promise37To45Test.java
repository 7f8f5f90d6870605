/** Promises 37 to 45, the host, with section 8 of the terms: each test names the sentence that it holds. */
public final class Promise37To45Test {
    private static final Promises T = new Promises(Promise37To45Test.class);
    private static final int MIN = Integer.MIN_VALUE, MAX = Integer.MAX_VALUE;
    private static final int BAD = -1, FULL = -2, NONE = -3;
    private static final int NOTHING = -11, OUTSIDE = -12, OTHER = -13, BELOW_ZERO = -14, PARTED = -15;
    private static final int BYTES = 0, SHORTS = 1, INTS = 2, LONGS = 3, BOOLEANS = 4;
    private static final int EATS = 0, OWES = 1, VOTES = 2, PARTS = 3;

    public static void main(String[] args) {
        T.run();
    }

    /** Sheets of each sort but shorts, and a row of them on the last shelf. */
    private static final java.util.function.Supplier<LongStrike> SHEETS = () -> {
        LongStrike x = Valleys.SOME.get();
        x.sheet(0, BYTES, 6);
        x.sheet(1, INTS, 40);
        x.sheet(2, BOOLEANS, 0);
        x.put(0, 5, -7);
        x.put(1, 39, 1000000);
        x.shelf(3, 3, 1);
        return x;
    };

    // ---- 37: sheet

    private static void p37_upToForty() {
        T.sentence(37, "SHEETS 0 to 3 are rows of bytes (sort 0), shorts (1), ints (2), longs (3) or booleans (4), 40 "
            + "at most, or missing (at first).");
        LongStrike x = new LongStrike();
        for (int sort = BYTES; sort <= BOOLEANS; sort++) {
            for (int n : new int[] {0, 1, 39, 40}) {
                T.due(Promises.told("sheet", 3, sort, n), x.sheet(3, sort, n), 1);
                T.due("its last item", x.item(3, sort, n - 1), n == 0 ? OUTSIDE : 0);
                T.due("none behind it", x.item(3, sort, n), OUTSIDE);
                x.put(3, n - 1, 1);
                T.due("another row", x.sheet(3, sort, n), 1);
                T.due("all 0", x.item(3, sort, n - 1), n == 0 ? OUTSIDE : 0);
            }
        }
        x.sheet(3, INTS, 40);
        for (int i = 0; i < 40; i++) x.put(3, i, 5);
        x.sheet(3, INTS, 3);
        x.sheet(3, INTS, 40);
        for (int i = 0; i < 40; i++) T.due("all 0", x.item(3, INTS, i), 0);
    }

    private static void p37_missing() {
        T.sentence(37, "A SHEET becomes a row of n of a sort, all 0, or missing (sort -1; n isn't looked at): 1.");
        LongStrike x = new LongStrike();
        for (int s = 0; s < 4; s++) T.due("missing at first", x.item(s, SHORTS, 0), NOTHING);
        for (int n : new int[] {0, 40, 41, -1, MIN, MAX}) {
            x.sheet(2, SHORTS, 5);
            T.due(Promises.told("sheet", 2, -1, n), x.sheet(2, -1, n), 1);
            T.due("missing", x.item(2, SHORTS, 0), NOTHING);
            T.due("missing twice", x.sheet(2, -1, n), 1);
        }
    }

    private static void p37_bad() {
        T.sentence(37, "BAD: no such SHEET, sort, n above 40; -14.");
        int[][] bad = {{-1, 0, 5}, {4, 0, 5}, {MIN, 0, 5}, {MAX, 0, 5}, {0, -2, 5}, {0, 5, 5}, {0, MIN, 5}, {0, MAX, 5}, {0, 0, 41},
            {0, 4, MAX}, {4, -1, 0}, {-1, -1, 0}, {4, 0, -1}, {0, 5, -1}, {0, -2, -1}, {4, 0, 41}};
        for (int[] b : bad) T.refused(Promises.told("sheet", b), SHEETS, x -> x.sheet(b[0], b[1], b[2]), BAD);
        for (int sort = BYTES; sort <= BOOLEANS; sort++) {
            int of = sort;
            for (int n : new int[] {-1, -40, MIN}) {
                for (int s = 0; s < 4; s++) {
                    int sheet = s;
                    T.due(Promises.told("sheet", s, sort, n), SHEETS.get().sheet(s, sort, n), BELOW_ZERO);
                    if (n == -1) T.changesNothing(Promises.told("sheet", s, sort, n), SHEETS, x -> x.sheet(sheet, of, n));
                }
            }
        }
    }

    // ---- 38: put

    private static void p38_narrowed() {
        T.sentence(38, "Item i becomes v, narrowed to its sort (booleans: whether it isn't 0): 1.");
        int[][] due = {{0, 0, 0, 0, 0}, {1, 1, 1, 1, 1}, {-1, -1, -1, -1, 1}, {2, 2, 2, 2, 1}, {127, 127, 127, 127, 1},
            {128, -128, 128, 128, 1}, {-128, -128, -128, -128, 1}, {-129, 127, -129, -129, 1}, {255, -1, 255, 255, 1},
            {256, 0, 256, 256, 1}, {32767, -1, 32767, 32767, 1}, {32768, 0, -32768, 32768, 1}, {-32768, 0, -32768, -32768, 1},
            {-32769, -1, 32767, -32769, 1}, {65535, -1, -1, 65535, 1}, {65536, 0, 0, 65536, 1}, {MAX, -1, -1, MAX, 1}, {MIN, 0, 0, MIN, 1}};
        for (int sort = BYTES; sort <= BOOLEANS; sort++) {
            LongStrike x = new LongStrike();
            x.sheet(1, sort, 3);
            for (int[] d : due) {
                T.due(Promises.told("put", 1, 1, d[0]), x.put(1, 1, d[0]), 1);
                int want = sort == BOOLEANS ? d[4] : sort == LONGS ? d[3] : d[1 + sort];
                T.due("as sort " + sort, x.item(1, sort, 1), want);
                T.due("the one ahead", x.item(1, sort, 0), 0);
                T.due("the one behind", x.item(1, sort, 2), 0);
            }
        }
    }

    private static void p38_refusals() {
        T.sentence(38, "BAD: no such SHEET; -11; -12.");
        for (int s : new int[] {-1, 4, MIN, MAX}) {
            T.refused("put(" + s + ", 0, 1)", SHEETS, x -> x.put(s, 0, 1), BAD);
            T.refused("put(" + s + ", -1, 1): BAD first", SHEETS, x -> x.put(s, -1, 1), BAD);
        }
        for (int i : new int[] {0, -1, 40, MIN, MAX}) T.refused("missing: put(3, " + i + ", 1)", SHEETS, x -> x.put(3, i, 1), NOTHING);
        for (int i : new int[] {-1, 6, 40, MIN, MAX}) T.refused("put(0, " + i + ", 1)", SHEETS, x -> x.put(0, i, 1), OUTSIDE);
        for (int i : new int[] {-1, 40, MIN, MAX}) T.refused("put(1, " + i + ", 1)", SHEETS, x -> x.put(1, i, 1), OUTSIDE);
        for (int i : new int[] {-1, 0}) T.refused("an empty row", SHEETS, x -> x.put(2, i, 1), OUTSIDE);
        T.due("the first", SHEETS.get().put(1, 0, 1), 1);
        T.due("the last", SHEETS.get().put(1, 39, 1), 1);
    }

    // ---- 39: item

    private static void p39_asThatSort() {
        T.sentence(39, "Item i, taken for a sort (0 to 4; of longs the lowest 32 bits, of booleans 1, 0).");
        for (int sort = BYTES; sort <= BOOLEANS; sort++) {
            LongStrike x = new LongStrike();
            x.sheet(0, sort, 2);
            x.put(0, 1, -5);
            for (int as = BYTES; as <= BOOLEANS; as++) {
                T.due("sort " + sort + " taken for " + as, x.item(0, as, 1), as != sort ? OTHER : sort == BOOLEANS ? 1 : -5);
            }
        }
    }

    private static void p39_asLowAsRefusals() {
        T.sentence(39, "(An item may be as low as these, too.)");
        LongStrike x = new LongStrike();
        for (int sort : new int[] {BYTES, SHORTS, INTS, LONGS}) {
            x.sheet(0, sort, 1);
            for (int v = -15; v <= 0; v++) {
                x.put(0, 0, v);
                T.due("an item of " + v, x.item(0, sort, 0), v);
            }
        }
    }

    private static void p39_refusals() {
        T.sentence(39, "BAD: no such SHEET, sort; -13; -11; -12.");
        for (int s : new int[] {-1, 4, MIN, MAX}) T.refused("item(" + s + ", 0, 0)", SHEETS, x -> x.item(s, 0, 0), BAD);
        for (int sort : new int[] {-1, 5, MIN, MAX}) {
            T.refused("item(0, " + sort + ", 0)", SHEETS, x -> x.item(0, sort, 0), BAD);
            T.refused("BAD ahead of -11", SHEETS, x -> x.item(3, sort, 0), BAD);
            T.refused("BAD ahead of -12", SHEETS, x -> x.item(0, sort, -1), BAD);
        }
        for (int i : new int[] {-1, 6, MIN, MAX}) {
            T.refused("item(0, 0, " + i + ")", SHEETS, x -> x.item(0, BYTES, i), OUTSIDE);
            T.refused("-13 ahead of -12", SHEETS, x -> x.item(0, INTS, i), OTHER);
        }
        for (int as = BYTES; as <= BOOLEANS; as++) {
            int sort = as;
            T.due("missing", SHEETS.get().item(3, sort, 0), NOTHING);
            T.due("-11 ahead of -12", SHEETS.get().item(3, sort, -1), NOTHING);
        }
        T.due("an empty row", SHEETS.get().item(2, BOOLEANS, 0), OUTSIDE);
        T.due("an empty row of another sort", SHEETS.get().item(2, BYTES, 0), OTHER);
    }

    // ---- 40: comes

    private static LongStrike told(int size, int from, int... items) {
        LongStrike x = Valleys.of(3, 2);
        x.sheet(1, SHORTS, size);
        for (int i = 0; i < items.length; i++) x.put(1, from + i, items[i]);
        return x;
    }

    private static void p40_fiveItems() {
        T.sentence(40, "A HOUSEHOLD comes from a SHEET taken for shorts: items i to i + 4 are what household() is "
            + "told, in its order: what that answers.");
        int[][] places = {{5, 0}, {6, 1}, {40, 0}, {40, 35}, {40, 17}};
        for (int[] p : places) {
            LongStrike x = told(p[0], p[1], 2, 1, 9, 9876, 99);
            T.due(Promises.told("comes", 1, p[1]), x.comes(1, p[1]), 0);
            int[] of = {2, 1, 9, 9, 87, 99};
            for (int what = 0; what <= 5; what++) T.due("of(0, " + what + ")", x.of(0, what), of[what]);
            T.due("the next one", x.comes(1, p[1]), 1);
            T.due("HOUSEHOLDS", x.many(4), 2);
            T.due("the sheet stays", x.item(1, SHORTS, p[1] + 3), 9876);
        }
        int[][] bad = {{3, 0, 1, 0, 0}, {-1, 0, 1, 0, 0}, {0, 2, 1, 0, 0}, {0, 0, 0, 0, 0}, {0, 0, 10, 0, 0}, {0, 0, 1, -1, 0},
            {0, 0, 1, 10000, 0}, {0, 0, 1, 0, 100}, {0, 0, 1, 0, -1}};
        for (int[] b : bad) {
            T.refused("what household() refuses", () -> told(5, 0, b), x -> x.comes(1, 0), BAD);
        }
        T.due("narrowed: 65537 is 1", told(5, 0, 65536, 65536, 65537, 65536, 65586).comes(1, 0), 0);
        LongStrike full = told(5, 0, 0, 0, 1, 0, 50);
        for (int i = 0; i < 16; i++) T.due("comes", full.comes(1, 0), i);
        T.due("what household() answers", full.comes(1, 0), FULL);
        full.put(1, 2, 0);
        T.due("BAD ahead of FULL", full.comes(1, 0), BAD);
    }

    private static void p40_refusals() {
        T.sentence(40, "BAD: no such SHEET; -13; -11; -12.");
        for (int s : new int[] {-1, 4, MIN, MAX}) T.refused("comes(" + s + ", 0)", SHEETS, x -> x.comes(s, 0), BAD);
        for (int i : new int[] {0, -1, 99, MIN, MAX}) {
            T.refused("missing", SHEETS, x -> x.comes(3, i), NOTHING);
            T.refused("bytes", SHEETS, x -> x.comes(0, i), OTHER);
            T.refused("ints", SHEETS, x -> x.comes(1, i), OTHER);
            T.refused("booleans", SHEETS, x -> x.comes(2, i), OTHER);
        }
        LongStrike longs = new LongStrike();
        longs.sheet(0, LONGS, 9);
        T.due("longs", longs.comes(0, 0), OTHER);
        for (int i : new int[] {-1, 3, 4, 6, 7, 8, MIN, MAX, MAX - 3, MAX - 4}) {
            T.refused("comes(0, " + i + ") of seven", Valleys.SOME, x -> x.comes(0, i), OUTSIDE);
        }
        for (int size = 0; size < 5; size++) T.due("too short: " + size, told(size, 0).comes(1, 0), OUTSIDE);
        T.due("40 are enough up to 35", told(40, 36, 0, 0, 1, 0).comes(1, 36), OUTSIDE);
    }

    // ---- 41: shelf

    private static void p41_holds() {
        T.sentence(41, "A SHELF holds HOUSEHOLD n (what 0), SHOP n (1), PIT n (2), the row that SHEET n has then (3; "
            + "nothing, if missing), nothing (4; n isn't looked at): 1.");
        LongStrike x = Valleys.FULL.get();
        int[] most = {15, 3, 3};
        int[] kinds = {1, 2, 3};
        for (int s = 0; s < 4; s++) {
            T.due("nothing", x.shelf(s, 4, 0), 1);
            for (int what = 0; what < 3; what++) {
                for (int n : new int[] {0, most[what]}) {
                    T.due(Promises.told("shelf", s, what, n), x.shelf(s, what, n), 1);
                    T.due("taken", x.taken(s, kinds[what]), n);
                }
            }
            for (int n : new int[] {0, 3}) {
                T.due("a row", x.shelf(s, 3, n), 1);
                T.due("taken", x.taken(s, 11), 40);
            }
            for (int n : new int[] {0, -1, 99, MIN, MAX}) {
                x.shelf(s, 0, 0);
                T.due("nothing: n isn't looked at", x.shelf(s, 4, n), 1);
                T.due("nothing", x.taken(s, 0), NOTHING);
            }
            x.sheet(2, -1, 0);
            x.shelf(s, 0, 0);
            T.due("a sheet that is missing", x.shelf(s, 3, 2), 1);
            T.due("nothing", x.taken(s, 11), NOTHING);
            x.sheet(2, 1, 4);
            T.due("nothing, though it isn't missing any more", x.taken(s, 11), NOTHING);
        }
    }

    private static void p41_theRowThatItHasThen() {
        T.sentence(41, "the row that SHEET n has then (3; nothing, if missing)");
        LongStrike x = new LongStrike();
        x.sheet(1, LONGS, 8);
        x.shelf(0, 3, 1);
        x.sheet(1, LONGS, 9);
        T.due("the row as it was", x.taken(0, 13), 8);
        x.sheet(1, BYTES, 3);
        T.due("the row as it was", x.taken(0, 13), 8);
        T.due("not the new one", x.taken(0, 10), OTHER);
        x.sheet(1, -1, 0);
        T.due("the row as it was", x.taken(0, 13), 8);
        x.shelf(0, 3, 1);
        T.due("nothing now", x.taken(0, 13), NOTHING);
        x.sheet(1, BOOLEANS, 0);
        x.shelf(0, 3, 1);
        T.due("an empty row is a row", x.taken(0, 14), 0);
    }

    private static void p41_bad() {
        T.sentence(41, "nothing (4; n isn't looked at): 1. BAD.");
        int[][] bad = {{-1, 0, 0}, {4, 0, 0}, {MIN, 4, 0}, {MAX, 4, 0}, {0, -1, 0}, {0, 5, 0}, {0, MIN, 0}, {0, MAX, 0}, {0, 0, -1},
            {0, 0, 4}, {0, 0, MIN}, {0, 0, MAX}, {0, 1, -1}, {0, 1, 2}, {0, 1, MAX}, {0, 2, -1}, {0, 2, 2}, {0, 2, MAX}, {0, 3, -1},
            {0, 3, 4}, {0, 3, MIN}, {0, 3, MAX}, {3, 0, 4}, {4, 4, 0}, {-1, 4, 0}};
        for (int[] b : bad) T.refused(Promises.told("shelf", b), SHEETS, x -> x.shelf(b[0], b[1], b[2]), BAD);
        T.due("no household", new LongStrike().shelf(0, 0, 0), BAD);
        T.due("no shop", new LongStrike().shelf(0, 1, 0), BAD);
        T.due("no pit", new LongStrike().shelf(0, 2, 0), BAD);
        T.due("a sheet that is missing", new LongStrike().shelf(0, 3, 0), 1);
        T.due("no seventeenth household", Valleys.FULL.get().shelf(0, 0, 16), BAD);
        T.due("no fifth shop", Valleys.FULL.get().shelf(0, 1, 4), BAD);
        T.due("no fifth pit", Valleys.FULL.get().shelf(0, 2, 4), BAD);
    }

    // ---- 42: taken

    /** Households 0 (as it is), 1 (evicted), 2 (back), 3 (evicted, then back), shop 1, pits 0 and 1 (lost). */
    private static LongStrike kinds() {
        LongStrike x = Valleys.of(4, 0);
        x.pit(2, 1, 0, 9999);
        x.pit(2, 50, 0, 49);
        x.shop(3, 0);
        x.shop(3, 7);
        for (int i = 0; i < 4; i++) x.household(1, 0, 2, i < 2 ? 9000 : 0, i < 2 ? 50 : 2);
        Valleys.read(x, 2, "evict 0;");
        x.paper(1);
        x.paper(3);
        x.evict(0);
        x.evict(1);
        x.days(1);
        return x;
    }

    private static void p42_itsKindOrOneAbove() {
        T.sentence(42, "4 lodger (under household: one that is EVICTED), 5 back (under household: one that is BACK, "
            + "EVICTED or not), 6 lost (under pit: a PIT that is LOST).");
        int[][] things = {{0, 0}, {0, 1}, {0, 2}, {0, 3}, {1, 1}, {2, 0}, {2, 1}};
        String[] kinds = {"01", "014", "015", "015", "02", "03", "036"};
        for (int i = 0; i < things.length; i++) {
            LongStrike x = kinds();
            T.due("shelf", x.shelf(2, things[i][0], things[i][1]), 1);
            for (int as = 0; as <= 6; as++) {
                boolean isSo = kinds[i].indexOf('0' + as) >= 0;
                T.due(Promises.told("thing", things[i]) + " as " + as, x.taken(2, as), isSo ? things[i][1] : OTHER);
            }
            for (int as = 10; as <= 14; as++) T.due("a thing is no row", x.taken(2, as), OTHER);
        }
    }

    private static void p42_holdsAllKindsUnderIt() {
        T.sentence(42, "What a SHELF holds taken for a thing of KIND as (0 to 6, or one under it): its number");
        LongStrike x = kinds();
        for (int h = 0; h < 4; h++) {
            x.shelf(h, 0, h);
            T.due("a holder", x.taken(h, 0), h);
            T.due("a household", x.taken(h, 1), h);
            T.due("no shop", x.taken(h, 2), OTHER);
            T.due("no pit", x.taken(h, 3), OTHER);
            T.due("no lost pit", x.taken(h, 6), OTHER);
        }
        T.due("a lodger isn't back", x.taken(1, 5), OTHER);
        T.due("one that is back is no lodger", x.taken(3, 4), OTHER);
        x.shelf(0, 2, 1);
        T.due("a lost pit is a pit", x.taken(0, 3), 1);
        x.shelf(0, 2, 0);
        T.due("a pit needn't be lost", x.taken(0, 6), OTHER);
    }

    private static void p42_kindAsItIsNow() {
        T.sentence(42, "(by number: a new one of that number, too; of their KIND as it is now; nothing, if there is no "
            + "such one any more)");
        LongStrike x = Valleys.of(1, 0);
        x.pit(0, 10, 0, 15);
        x.household(0, 0, 1, 0, 5);
        x.shelf(0, 0, 0);
        x.shelf(1, 2, 0);
        T.due("not EVICTED", x.taken(0, 4), OTHER);
        T.due("not LOST", x.taken(1, 6), OTHER);
        Valleys.read(x, 2, "evict 0;");
        x.paper(0);
        x.evict(0);
        T.due("EVICTED now", x.taken(0, 4), 0);
        x.days(1);
        T.due("15 is the limit", x.taken(1, 6), OTHER);
        x.days(1);
        T.due("LOST now", x.taken(1, 6), 0);
        T.due("not BACK", x.taken(0, 5), OTHER);
        x.days(1);
        T.due("BACK now", x.taken(0, 5), 0);
        T.due("no lodger any more", x.taken(0, 4), OTHER);
        LongStrike y = Valleys.of(1, 1);
        y.keep();
        y.household(0, 0, 1, 0, 50);
        y.shop(0, 5);
        y.pit(0, 1, 1, 1);
        y.shelf(0, 0, 0);
        y.shelf(1, 1, 0);
        y.shelf(2, 2, 1);
        y.shelf(3, 2, 0);
        y.again();
        for (int s = 0; s < 3; s++) {
            T.due("no such one any more: " + s, y.taken(s, 0), NOTHING);
            T.due("no deal with it: " + s, y.deal(s, 0, 5), 0);
            T.due("no TRACE: " + s, y.many(15), 0);
        }
        T.due("the pit that stays", y.taken(3, 3), 0);
        y.household(0, 0, 9, 0, 50);
        y.shop(0, 6);
        y.pit(0, 1, 1, 7);
        for (int s = 0; s < 3; s++) T.due("a new one of that number: " + s, y.taken(s, 0), s == 2 ? 1 : 0);
        int[] eats = {14, 11, 12};
        for (int s = 0; s < 3; s++) T.due("a deal with the new one: " + s, y.deal(s, 0, 5), eats[s]);
    }

    private static void p42_rows() {
        T.sentence(42, "for a row of sort as - 10 (as 10 to 14): how many items.");
        for (int sort = BYTES; sort <= BOOLEANS; sort++) {
            for (int n : new int[] {0, 1, 40}) {
                LongStrike x = new LongStrike();
                x.sheet(3, sort, n);
                x.shelf(1, 3, 3);
                for (int as = 0; as <= 14; as++) {
                    if (as > 6 && as < 10) continue;
                    T.due("a row of sort " + sort + " as " + as, x.taken(1, as), as == 10 + sort ? n : OTHER);
                }
            }
        }
    }

    private static void p42_refusals() {
        T.sentence(42, "BAD: no such SHELF, as; -13; -11.");
        for (int s : new int[] {-1, 4, MIN, MAX}) {
            T.refused("taken(" + s + ", 0)", SHEETS, x -> x.taken(s, 0), BAD);
            T.refused("taken(" + s + ", 10)", SHEETS, x -> x.taken(s, 10), BAD);
        }
        for (int as : new int[] {-1, 7, 8, 9, 15, MIN, MAX}) {
            for (int s = 0; s < 4; s++) {
                int shelf = s;
                T.due("taken(" + s + ", " + as + ")", SHEETS.get().taken(shelf, as), BAD);
            }
            T.due("BAD ahead of -11", new LongStrike().taken(0, as), BAD);
        }
        for (int s = 0; s < 4; s++) {
            for (int as = 0; as <= 14; as++) {
                if (as < 7 || as > 9) T.due("nothing at first", new LongStrike().taken(s, as), NOTHING);
            }
        }
    }

    private static void p42_nothingAtFirst() {
        T.sentence(42, "a SHEET's row, or nothing (at first).");
        LongStrike x = kinds();
        x.sheet(0, INTS, 3);
        for (int s = 0; s < 4; s++) {
            T.due("nothing at first, whatever there is", x.taken(s, 0), NOTHING);
            T.due("nothing at first, whatever there is", x.taken(s, 12), NOTHING);
            T.due("no deal with it", x.deal(s, 0, 5), 0);
        }
    }

    // ---- 43: deal

    private static void dealt(LongStrike x, int shelf, int deal, int at, int due, int... bodies) {
        String call = Promises.told("deal", shelf, deal, at);
        T.due(call, x.deal(shelf, deal, at), due);
        T.due("many(15) behind " + call, x.many(15), bodies.length);
        for (int i = 0; i < bodies.length; i++) T.due("trace(" + i + ") behind " + call, x.trace(i), bodies[i]);
        for (int i : new int[] {-1, bodies.length, 29, 30, MIN, MAX}) T.due("trace(" + i + ") behind " + call, x.trace(i), NONE);
    }

    private static LongStrike on(LongStrike x, int what, int n) {
        x.shelf(0, what, n);
        return x;
    }

    private static void p43_holders() {
        T.sentence(43, "holder: 10 eats: x + m. 11 owes: eats(x) * 2. 12 votes: owes(x) - v.");
        LongStrike x = Valleys.of(6, 0);
        for (int i = 0; i < 3; i++) x.pit(5, 1, 0, 100 + i);
        // a pit eats and owes as a holder does; a shop eats and votes as one
        on(x, 2, 2);
        for (int at : new int[] {0, 1, -1, -102, -103, 1000}) {
            dealt(x, 0, EATS, at, at + 102, 10);
            dealt(x, 0, OWES, at, (at + 102) * 2, 11, 10);
        }
        x.shop(4, 30);
        on(x, 1, 0);
        for (int at : new int[] {0, 1, -1, -30, -31, 1000}) {
            dealt(x, 0, EATS, at, at + 30, 10);
            dealt(x, 0, VOTES, at, -2 * (at + 30) - 4, 12, 30, 11, 10);
        }
    }

    private static LongStrike manyThings() {
        LongStrike x = Valleys.of(6, 0);
        for (int i = 0; i < 4; i++) x.pit(i, 1, 0, 9996 + i);
        for (int i = 0; i < 4; i++) x.shop(5 - i, 996 + i);
        for (int i = 0; i < 16; i++) x.household(i % 6, 3, 1 + i % 9, 0, 50);
        return x;
    }

    private static void p43_numbersOfTheThing() {
        T.sentence(43, "n: its number, v: its VILLAGE, m: MOUTHS of a HOUSEHOLD, CREDIT of a SHOP, LIMIT of a PIT.");
        for (int i = 0; i < 4; i++) {
            LongStrike x = manyThings();
            dealt(on(x, 2, i), 0, EATS, 0, 9996 + i, 10);
            dealt(on(x, 2, i), 0, VOTES, 0, ((9996 + i) * 2 - i) * 3, 40, 12, 11, 10);
            dealt(on(x, 1, i), 0, EATS, 0, 996 + i, 10);
            dealt(on(x, 1, i), 0, VOTES, 0, -(996 + i) * 2 - (5 - i), 12, 30, 11, 10);
        }
        for (int i = 0; i < 16; i++) {
            LongStrike x = manyThings();
            int eats = (1 + i % 9) ^ i;
            dealt(on(x, 0, i), 0, EATS, 0, eats, 20, 10);
            dealt(on(x, 0, i), 0, VOTES, 0, eats * 2 - i % 6 + ((2 + i % 9) ^ i), 21, 12, 11, 20, 10, 20, 10);
            dealt(on(x, 0, i), 0, PARTS, 90, i == 1 ? PARTED : 90 / (i - 1), 13);
        }
    }

    private static void p43_households() {
        T.sentence(43, "household: 20 eats: super.eats(x) ^ n. 21 votes: super.votes(x) + eats(1).");
        LongStrike x = Valleys.of(3, 1);
        for (int i = 0; i < 4; i++) x.household(2, 0, 5, 0, 50);
        on(x, 0, 3);
        dealt(x, 0, EATS, 4, 9 ^ 3, 20, 10);
        dealt(x, 0, OWES, 4, (9 ^ 3) * 2, 11, 20, 10);
        dealt(x, 0, VOTES, 4, (9 ^ 3) * 2 - 2 + (6 ^ 3), 21, 12, 11, 20, 10, 20, 10);
        dealt(x, 0, PARTS, 7, 3, 13);
    }

    private static void p43_lodgers() {
        T.sentence(43, "lodger: 50 eats: super.eats(x - 1).");
        LongStrike x = Valleys.of(3, 1);
        for (int i = 0; i < 4; i++) x.household(2, 0, 5, 0, 50);
        on(x, 0, 3);
        Valleys.read(x, 2, "evict 0;");
        x.paper(3);
        x.evict(0);
        dealt(x, 0, EATS, 4, 8 ^ 3, 50, 20, 10);
        dealt(x, 0, OWES, 4, (8 ^ 3) * 2, 11, 50, 20, 10);
        dealt(x, 0, VOTES, 4, (8 ^ 3) * 2 - 2 + (5 ^ 3), 21, 12, 11, 50, 20, 10, 50, 20, 10);
        dealt(x, 0, PARTS, 7, 3, 13);
    }

    private static void p43_back() {
        T.sentence(43, "back: 60 owes: super.owes(x) + 5. 61 parts: 0 - super.parts(x).");
        for (int n : new int[] {2, 3}) {
            // household 3 is evicted, too
            LongStrike x = on(kinds(), 0, n);
            dealt(x, 0, EATS, 4, 6 ^ n, 20, 10);
            dealt(x, 0, OWES, 4, (6 ^ n) * 2 + 5, 60, 11, 20, 10);
            dealt(x, 0, VOTES, 4, (6 ^ n) * 2 + 5 - 1 + (3 ^ n), 21, 12, 60, 11, 20, 10, 20, 10);
            dealt(x, 0, PARTS, 7, n == 2 ? -7 : -3, 61, 13);
            dealt(x, 0, PARTS, -7, n == 2 ? 7 : 3, 61, 13);
        }
    }

    private static void p43_shops() {
        T.sentence(43, "shop: 30 owes: 0 - super.owes(x).");
        LongStrike x = on(kinds(), 1, 0);
        dealt(x, 0, EATS, 4, 4, 10);
        dealt(x, 0, OWES, 4, -8, 30, 11, 10);
        dealt(x, 0, VOTES, 4, -8 - 3, 12, 30, 11, 10);
        dealt(x, 0, PARTS, 4, -4, 13);
        on(x, 1, 1);
        dealt(x, 0, EATS, 4, 11, 10);
        dealt(x, 0, OWES, 4, -22, 30, 11, 10);
    }

    private static void p43_pits() {
        T.sentence(43, "pit: 40 votes: super.votes(x) * 3. 41 parts: super.parts(x + v).");
        LongStrike x = Valleys.of(3, 0);
        for (int i = 0; i < 4; i++) x.pit(2, 50, 0, i == 2 ? 49 : 139);
        on(x, 2, 3);
        dealt(x, 0, EATS, 4, 143, 10);
        dealt(x, 0, OWES, 4, 286, 11, 10);
        dealt(x, 0, VOTES, 4, (286 - 2) * 3, 40, 12, 11, 10);
        dealt(x, 0, PARTS, 5, 3, 41, 13);
        dealt(x, 0, PARTS, -5, -1, 41, 13);
    }

    private static void p43_lostPits() {
        T.sentence(43, "lost: 70 votes: super.votes(x) - owes(0). 71 eats: super.eats(x) * n.");
        LongStrike x = Valleys.of(3, 0);
        for (int i = 0; i < 4; i++) x.pit(2, 50, 0, i == 2 ? 49 : 139);
        x.days(1);
        on(x, 2, 2);
        dealt(x, 0, EATS, 4, 53 * 2, 71, 10);
        dealt(x, 0, OWES, 4, 53 * 4, 11, 71, 10);
        dealt(x, 0, VOTES, 4, (53 * 4 - 2) * 3 - 49 * 4, 70, 40, 12, 11, 71, 10, 11, 71, 10);
        dealt(x, 0, PARTS, 5, 7, 41, 13);
    }

    private static void p43_cutTowardZero() {
        T.sentence(43, "13 parts: x by (n - 1), cut toward 0");
        LongStrike x = Valleys.of(1, 1);
        for (int i = 0; i < 5; i++) x.household(0, 0, 1, 0, 50);
        int[][] due = {{4, 7, 2}, {4, -7, -2}, {4, 3, 1}, {4, 2, 0}, {4, -2, 0}, {4, -3, -1}, {4, 0, 0}, {4, MAX, 715827882},
            {4, MIN, -715827882}, {2, 7, 7}, {2, MIN, MIN}, {0, 7, -7}, {0, -7, 7}, {0, MAX, -MAX}, {0, 0, 0}};
        for (int[] d : due) dealt(on(x, 0, d[0]), 0, PARTS, d[1], d[2], 13);
        dealt(on(x, 0, 0), 0, PARTS, MIN, MIN, 13);
    }

    private static void p43_partedByZero() {
        T.sentence(43, "(-15 if n is 1; that is all that deal() answers then; THE TRACE is of that deal, too)");
        for (int at : new int[] {0, 1, -1, 15, -15, MIN, MAX}) {
            dealt(on(kinds(), 0, 1), 0, PARTS, at, PARTED, 13);
            dealt(on(kinds(), 1, 1), 0, PARTS, at, PARTED, 13);
            dealt(on(kinds(), 2, 1), 0, PARTS, at, PARTED, 41, 13);
        }
        LongStrike x = Valleys.of(1, 2);
        x.household(0, 0, 1, 990, 50);
        x.household(0, 0, 1, 990, 2);
        on(x, 2, 1);
        dealt(x, 0, PARTS, 9, PARTED, 41, 13);
        on(x, 0, 1);
        dealt(x, 0, PARTS, 9, PARTED, 13);
        x.days(1);
        T.due("BACK", x.of(1, 10), 1);
        dealt(x, 0, PARTS, 9, PARTED, 61, 13);
        dealt(x, 0, EATS, 9, 10 ^ 1, 20, 10);
        T.due("-15 as a plain answer", on(Valleys.of(1, 1), 2, 0).deal(0, PARTS, 15), -15);
    }

    private static void p43_intsThatWrap() {
        T.sentence(43, "DEALS with a thing by its KIND, with a number x (ints that wrap)");
        LongStrike x = kinds();
        on(x, 1, 1);
        dealt(x, 0, EATS, MAX, MIN + 6, 10);
        dealt(x, 0, OWES, MAX - 7, 2, 30, 11, 10);
        dealt(x, 0, OWES, (1 << 30) - 7, MIN, 30, 11, 10);
        dealt(x, 0, VOTES, (1 << 30) - 7, MAX - 2, 12, 30, 11, 10);
        on(x, 2, 0);
        dealt(x, 0, EATS, MAX, MIN + 9998, 10);
        dealt(x, 0, VOTES, MAX - 9999, (-2 - 2) * 3, 40, 12, 11, 10);
        dealt(x, 0, VOTES, 0x30000000 - 9999, (0x60000000 - 2) * 3, 40, 12, 11, 10);
        dealt(x, 0, PARTS, MAX, -(MIN + 1), 41, 13);
        on(x, 2, 1);
        dealt(x, 0, EATS, MAX, MIN + 48, 71, 10);
        on(x, 0, 1);
        dealt(x, 0, EATS, MIN, (MAX + 2) ^ 1, 50, 20, 10);
        on(x, 0, 2);
        dealt(x, 0, PARTS, MIN, MIN, 61, 13);
    }

    private static void p43_nothingToDealWith() {
        T.sentence(43, "A DEAL (0 to 3) with the thing on a SHELF, with x. 0, and no TRACE then: no such SHELF, deal, "
            + "nothing, a row.");
        int[][] none = {{-1, 0}, {4, 0}, {MIN, 0}, {MAX, 0}, {0, -1}, {0, 4}, {0, MIN}, {0, MAX}, {1, 0}, {1, 3}, {2, 0}, {2, 2}, {3, 1}};
        for (int[] n : none) {
            LongStrike x = Valleys.of(1, 1);
            x.sheet(0, INTS, 3);
            x.sheet(1, INTS, 0);
            x.shelf(0, 2, 0);
            x.shelf(1, 3, 0);
            x.shelf(3, 3, 1);
            dealt(x, 0, EATS, 1, 10000, 10);
            dealt(x, n[0], n[1], 5, 0);
        }
        LongStrike y = on(Valleys.of(1, 1), 2, 0);
        dealt(y, 0, EATS, 1, 10000, 10);
        y.shelf(0, 4, 0);
        dealt(y, 0, EATS, 1, 0);
        y.shelf(0, 3, 3);
        dealt(y, 0, EATS, 1, 0);
    }

    private static void p43_changesNothingElse() {
        T.sentence(43, "A DEAL (0 to 3) with the thing on a SHELF, with x.");
        for (int deal = EATS; deal <= PARTS; deal++) {
            int dealt = deal;
            // the same deal as some() ends with: the trace is the same again
            T.changesNothing("deal(0, " + deal + ", 3)", Valleys.SOME, x -> {
                x.deal(0, dealt, 3);
                return x.deal(0, VOTES, 5);
            });
        }
    }

    // ---- 44: trace

    private static void p44_latestDeal() {
        T.sentence(44, "THE TRACE: numbers of the bodies that ran in the latest deal(), as they began (left first); "
            + "the first 30 are kept.");
        LongStrike x = kinds();
        on(x, 2, 1);
        x.deal(0, VOTES, 1);
        int[] most = {70, 40, 12, 11, 71, 10, 11, 71, 10};
        for (int i = 0; i < most.length; i++) T.due("trace(" + i + ")", x.trace(i), most[i]);
        T.due("trace(9)", x.trace(9), NONE);
        x.deal(0, EATS, 1);
        T.due("the latest", x.trace(0), 71);
        T.due("the latest", x.trace(1), 10);
        T.due("no more of the one ahead", x.trace(2), NONE);
        for (int i = 0; i < 40; i++) x.deal(0, VOTES, i);
        T.due("one deal's alone", x.many(15), 9);
    }

    private static void p44_none() {
        T.sentence(44, "THE TRACE's i-th body. NONE.");
        for (int i : new int[] {-1, 9, 10, 29, 30, 31, MIN, MAX}) T.refused("trace(" + i + ")", Valleys.SOME, x -> x.trace(i), NONE);
        T.due("the last one", Valleys.SOME.get().trace(8), 10);
        T.due("of a new object", new LongStrike().trace(0), NONE);
    }

    // ---- 45: many

    private static void p45_howMany() {
        T.sentence(45, "How many: what = 0 TODAY, 1 VILLAGES, 2 PITS, 3 SHOPS, 4 HOUSEHOLDS, 5 NEWS, 6 PAPERS, 7 SHIPS that are due yet, 8 THE FUND, "
            + "9 STOCK, 10 GATES, 11 MEN, 12 ROWS, 13 CLAUSES, 14 bytes of THE TAPE, 15 bodies of THE TRACE, 16 HOUSEHOLDS that are BACK.");
        LongStrike x = new LongStrike();
        int[] due = new int[17];
        for (int i = 0; i < 6; i++) due[1] = 1 + x.village();
        manyAre(x, due);
        for (int i = 0; i < 4; i++) due[2] = 1 + x.pit(0, 1, 0, 99);
        manyAre(x, due);
        for (int i = 0; i < 3; i++) due[3] = 1 + x.shop(0, 0);
        manyAre(x, due);
        for (int i = 0; i < 16; i++) due[4] = 1 + x.household(0, 0, 1, i < 5 ? 0 : 1000, 2);
        manyAre(x, due);
        for (int i = 0; i < 12; i++) due[5] = 1 + x.news(1, 0);
        manyAre(x, due);
        for (int i = 0; i < 11; i++) due[6] = 1 + x.paper(0);
        manyAre(x, due);
        for (int i = 0; i < 6; i++) due[7] = x.ship(1 + i / 2, 5);
        manyAre(x, due);
        due[8] = x.gift(true, 77);
        due[9] = x.gift(false, 99);
        manyAre(x, due);
        for (int i = 0; i < 4; i++) due[10] = 1 + x.post(false, 0);
        for (int i = 0; i < 8; i++) due[11] = 1 + x.post(true, 0);
        manyAre(x, due);
        due[12] = x.watch(0);
        manyAre(x, due);
        for (int i = 0; i < 9; i++) due[13] = 1 + x.clause(1);
        due[14] = x.feed(0, 7);
        x.shelf(0, 2, 0);
        x.deal(0, VOTES, 1);
        due[15] = 4;
        manyAre(x, due);
        due[0] = x.days(1);
        due[7] = 4;
        due[9] = 99 + 10;
        due[16] = 5;
        manyAre(x, due);
        due[12] = x.dropRow();
        x.read(-1);
        due[14] = 0;
        x.deal(0, -1, 0);
        due[15] = 0;
        manyAre(x, due);
    }

    private static void manyAre(LongStrike x, int[] due) {
        for (int what = 0; what < due.length; what++) T.due("many(" + what + ")", x.many(what), due[what]);
    }

    private static void p45_bad() {
        T.sentence(45, "BAD: another what.");
        for (int what : new int[] {-1, 17, MIN, MAX}) T.refused("many(" + what + ")", Valleys.SOME, x -> x.many(what), BAD);
    }
}
