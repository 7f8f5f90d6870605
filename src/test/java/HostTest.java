/** Promises 37 to 45: sheets, shelves, deals, their trace, and many(). */
public final class HostTest {
    private static final Checks T = new Checks("HostTest");
    private static final int MIN = Integer.MIN_VALUE, MAX = Integer.MAX_VALUE;

    public static void main(String[] args) {
        sheets();
        items();
        comes();
        shelves();
        rowsOnShelves();
        kinds();
        dealsWithHouseholds();
        dealsWithShops();
        dealsWithPits();
        dealsWithNothing();
        partedByZero();
        wrapping();
        many();
        T.end();
    }

    private static void sheets() {
        LongStrike x = new LongStrike();
        int[][] bad = {{-1, 0, 1}, {4, 0, 1}, {0, -2, 1}, {0, 5, 1}, {0, 0, 41}, {MIN, 0, 1}, {0, MAX, 1}, {0, 0, MAX}, {4, 0, -1},
            {0, 5, -1}, {4, -1, 0}};
        for (int[] b : bad) T.due("sheet(" + b[0] + ", " + b[1] + ", " + b[2] + ")", x.sheet(b[0], b[1], b[2]), -1);
        T.due("a size below 0", x.sheet(0, 0, -1), -14);
        T.due("a size below 0", x.sheet(3, 4, MIN), -14);
        T.due("still missing", x.item(0, 0, 0), -11);
        for (int sort = 0; sort < 5; sort++) {
            T.due("a sheet", x.sheet(1, sort, 40), 1);
            T.due("its last item", x.item(1, sort, 39), 0);
            T.due("behind it", x.item(1, sort, 40), -12);
            T.due("put", x.put(1, 39, 1), 1);
            T.due("it is there", x.item(1, sort, 39), 1);
            T.due("a new row", x.sheet(1, sort, 40), 1);
            T.due("is all 0", x.item(1, sort, 39), 0);
        }
        x.put(1, 3, 1);
        T.due("refused: n", x.sheet(1, 0, 41), -1);
        T.due("refused: n", x.sheet(1, 0, -5), -14);
        T.due("the row stays", x.item(1, 4, 3), 1);
        T.due("missing, n isn't looked at", x.sheet(1, -1, -99), 1);
        T.due("missing", x.put(1, 3, 1), -11);
        T.due("missing, n isn't looked at", x.sheet(1, -1, 99), 1);
        T.due("an empty row", x.sheet(1, 2, 0), 1);
        T.due("no item", x.item(1, 2, 0), -12);
    }

    private static void items() {
        LongStrike x = new LongStrike();
        int[] put = {0, 1, -1, 127, 128, 255, 256, 32767, 32768, 65536, MIN, MAX, -129};
        for (int sort = 0; sort < 5; sort++) {
            x.sheet(0, sort, 3);
            for (int v : put) {
                T.due("put", x.put(0, 2, v), 1);
                int due = sort == 0 ? (byte) v : sort == 1 ? (short) v : sort == 4 ? (v != 0 ? 1 : 0) : v;
                T.due(v + " of sort " + sort, x.item(0, sort, 2), due);
                for (int as = 0; as < 5; as++) if (as != sort) T.due("another sort", x.item(0, as, 2), -13);
            }
            T.due("its neighbour", x.item(0, sort, 1), 0);
        }
        for (int i : new int[] {-1, 3, MIN, MAX}) {
            T.due("put at " + i, x.put(0, i, 1), -12);
            T.due("item at " + i, x.item(0, 4, i), -12);
            T.due("another sort comes first", x.item(0, 0, i), -13);
            T.due("missing comes ahead of a place", x.item(1, 0, i), -11);
            T.due("missing comes ahead of a place", x.put(1, i, 1), -11);
        }
        for (int s : new int[] {-1, 4, MIN, MAX}) {
            T.due("put on no sheet", x.put(s, 0, 1), -1);
            T.due("item of no sheet", x.item(s, 0, 0), -1);
        }
        for (int sort : new int[] {-1, 5, MIN, MAX}) T.due("no such sort", x.item(1, sort, 0), -1);
    }

    private static void comes() {
        LongStrike x = Checks.valley(2, 2);
        for (int s : new int[] {-1, 4, MIN, MAX}) T.due("no sheet", x.comes(s, 0), -1);
        T.due("missing", x.comes(0, 0), -11);
        for (int sort = 0; sort < 5; sort++) {
            if (sort == 1) continue;
            x.sheet(0, sort, 9);
            T.due("not shorts", x.comes(0, 99), -13);
        }
        x.sheet(0, 1, 7);
        int[] told = {0, 1, 4, 2079, 33};
        for (int i = 0; i < 5; i++) x.put(0, 2 + i, told[i]);
        for (int i : new int[] {-1, 3, 7, MIN, MAX, MAX - 3}) T.due("comes(0, " + i + ")", x.comes(0, i), -12);
        T.due("comes", x.comes(0, 2), 0);
        int[] of = {0, 1, 4, 2, 7, 33};
        for (int what = 0; what < of.length; what++) T.due("of(0, " + what + ")", x.of(0, what), of[what]);
        T.due("what household() refuses", x.comes(0, 0), -1);
        for (int i = 1; i < 16; i++) T.due("comes", x.comes(0, 2), i);
        T.due("full", x.comes(0, 2), -2);
        x.sheet(0, 1, 4);
        T.due("too short", x.comes(0, 0), -12);
        x.sheet(0, 1, 0);
        T.due("empty", x.comes(0, 0), -12);
    }

    private static void shelves() {
        LongStrike x = Checks.valley(1, 1);
        x.shop(0, 1);
        x.household(0, 0, 1, 1000, 50);
        int[][] bad = {{-1, 0, 0}, {4, 0, 0}, {0, -1, 0}, {0, 5, 0}, {0, 0, 1}, {0, 0, -1}, {0, 1, 1}, {0, 1, -1}, {0, 2, 1},
            {0, 2, -1}, {0, 3, 4}, {0, 3, -1}, {MIN, 0, 0}, {0, MAX, 0}, {0, 0, MIN}, {4, 4, 0}};
        x.shelf(0, 0, 0);
        for (int[] b : bad) T.due("shelf(" + b[0] + ", " + b[1] + ", " + b[2] + ")", x.shelf(b[0], b[1], b[2]), -1);
        T.due("refused ones change nothing", x.taken(0, 1), 0);
        T.due("a shop", x.shelf(0, 1, 0), 1);
        T.due("a shop", x.taken(0, 2), 0);
        T.due("a pit", x.shelf(0, 2, 0), 1);
        T.due("a pit", x.taken(0, 3), 0);
        T.due("nothing, n isn't looked at", x.shelf(0, 4, 77), 1);
        T.due("nothing", x.taken(0, 3), -11);
        T.due("a sheet that is missing", x.shelf(0, 3, 0), 1);
        T.due("nothing", x.taken(0, 10), -11);
        for (int as : new int[] {-1, 7, 9, 15, MIN, MAX}) T.due("taken(0, " + as + ")", x.taken(0, as), -1);
        for (int s : new int[] {-1, 4, MIN, MAX}) T.due("taken(" + s + ", 0)", x.taken(s, 0), -1);
    }

    private static void rowsOnShelves() {
        LongStrike x = new LongStrike();
        for (int sort = 0; sort < 5; sort++) {
            x.sheet(2, sort, 7 + sort);
            T.due("a row", x.shelf(1, 3, 2), 1);
            for (int as = 0; as < 5; as++) T.due("as sort " + as, x.taken(1, 10 + as), as == sort ? 7 + sort : -13);
            for (int as = 0; as < 7; as++) T.due("a row is no thing", x.taken(1, as), -13);
        }
        x.sheet(2, 0, 3);
        T.due("the row that the sheet had then", x.taken(1, 14), 11);
        T.due("not the new one", x.taken(1, 10), -13);
        x.sheet(2, -1, 0);
        T.due("still there, if the sheet is missing", x.taken(1, 14), 11);
        x.sheet(2, 3, 0);
        x.shelf(1, 3, 2);
        T.due("an empty row is a row", x.taken(1, 13), 0);
    }

    private static void expectKinds(LongStrike x, int shelf, int number, int... kinds) {
        for (int as = 0; as < 7; as++) {
            boolean isSo = false;
            for (int kind : kinds) isSo |= kind == as;
            T.due("taken(" + shelf + ", " + as + ")", x.taken(shelf, as), isSo ? number : -13);
        }
        for (int as = 10; as < 15; as++) T.due("a thing is no row", x.taken(shelf, as), -13);
    }

    private static void kinds() {
        LongStrike x = new LongStrike();
        x.village();
        x.pit(0, 1, 0, 9999);
        x.pit(0, 1, 0, 1);
        x.shop(0, 1);
        x.shop(0, 1);
        for (int i = 0; i < 4; i++) x.household(0, 0, 2, i == 3 ? 0 : 9000, i == 3 ? 6 : 50);
        x.shelf(0, 0, 2);
        expectKinds(x, 0, 2, 0, 1);
        x.shelf(1, 0, 3);
        x.shelf(2, 2, 1);
        expectKinds(x, 2, 1, 0, 3);
        x.shelf(3, 1, 1);
        expectKinds(x, 3, 1, 0, 2);
        x.paper(2);
        x.paper(3);
        Checks.read(x, 2, "evict 0;");
        T.due("evicted", x.evict(0), 1);
        T.due("evicted", x.evict(1), 1);
        expectKinds(x, 0, 2, 0, 1, 4);
        expectKinds(x, 1, 3, 0, 1, 4);
        x.days(2);
        expectKinds(x, 2, 1, 0, 3, 6);
        x.days(1);
        expectKinds(x, 1, 3, 0, 1, 5);
        x.shelf(2, 2, 0);
        expectKinds(x, 2, 0, 0, 3);
    }

    private static void expectDeal(LongStrike x, int shelf, int deal, int at, int due, int... bodies) {
        String call = "deal(" + shelf + ", " + deal + ", " + at + ")";
        T.due(call, x.deal(shelf, deal, at), due);
        T.due("many(15) behind " + call, x.many(15), bodies.length);
        for (int i = 0; i < bodies.length; i++) T.due("trace(" + i + ") behind " + call, x.trace(i), bodies[i]);
        for (int i : new int[] {-1, bodies.length, 30, MIN, MAX}) T.due("trace(" + i + ")", x.trace(i), -3);
    }

    private static void dealsWithHouseholds() {
        LongStrike x = Checks.valley(3, 1);
        for (int i = 0; i < 4; i++) x.household(2, 0, 5, i == 3 ? 0 : 9000, i == 3 ? 1 : 50);
        x.shelf(0, 0, 2);
        // n 2, v 2, m 5
        expectDeal(x, 0, 0, 4, 9 ^ 2, 20, 10);
        expectDeal(x, 0, 1, 4, (9 ^ 2) * 2, 11, 20, 10);
        expectDeal(x, 0, 2, 4, (9 ^ 2) * 2 - 2 + (6 ^ 2), 21, 12, 11, 20, 10, 20, 10);
        expectDeal(x, 0, 3, -7, -7, 13);
        x.paper(2);
        Checks.read(x, 2, "evict 0;");
        x.evict(0);
        expectDeal(x, 0, 0, 4, 8 ^ 2, 50, 20, 10);
        expectDeal(x, 0, 1, 4, (8 ^ 2) * 2, 11, 50, 20, 10);
        expectDeal(x, 0, 2, 4, (8 ^ 2) * 2 - 2 + (5 ^ 2), 21, 12, 11, 50, 20, 10, 50, 20, 10);
        expectDeal(x, 0, 3, 9, 9, 13);
        x.days(1);
        x.shelf(0, 0, 3);
        expectDeal(x, 0, 0, 4, 9 ^ 3, 20, 10);
        expectDeal(x, 0, 1, 4, (9 ^ 3) * 2 + 5, 60, 11, 20, 10);
        expectDeal(x, 0, 2, 4, (9 ^ 3) * 2 + 5 - 2 + (6 ^ 3), 21, 12, 60, 11, 20, 10, 20, 10);
        expectDeal(x, 0, 3, 7, -3, 61, 13);
        expectDeal(x, 0, 3, -7, 3, 61, 13);
    }

    private static void dealsWithShops() {
        LongStrike x = Checks.valley(4, 0);
        x.shop(3, 70);
        x.shop(3, 70);
        x.shop(3, 70);
        x.shelf(1, 1, 2);
        expectDeal(x, 1, 0, 8, 78, 10);
        expectDeal(x, 1, 1, 8, -156, 30, 11, 10);
        expectDeal(x, 1, 2, 8, -159, 12, 30, 11, 10);
        expectDeal(x, 1, 3, 8, 8, 13);
        x.shelf(1, 1, 0);
        expectDeal(x, 1, 3, 8, -8, 13);
    }

    private static void dealsWithPits() {
        LongStrike x = Checks.valley(3, 0);
        for (int i = 0; i < 4; i++) x.pit(2, 40, 0, 39 + 100 * (i % 2));
        x.shelf(2, 2, 3);
        // n 3, v 2, m 139
        expectDeal(x, 2, 0, 1, 140, 10);
        expectDeal(x, 2, 1, 1, 280, 11, 10);
        expectDeal(x, 2, 2, 1, 278 * 3, 40, 12, 11, 10);
        expectDeal(x, 2, 3, 5, 3, 41, 13);
        expectDeal(x, 2, 3, -5, -1, 41, 13);
        x.days(1);
        x.shelf(2, 2, 2);
        // n 2, v 2, m 39, lost
        expectDeal(x, 2, 0, 1, 80, 71, 10);
        expectDeal(x, 2, 1, 1, 160, 11, 71, 10);
        expectDeal(x, 2, 2, 1, 158 * 3 - 156, 70, 40, 12, 11, 71, 10, 11, 71, 10);
        expectDeal(x, 2, 3, 5, 7, 41, 13);
        x.shelf(2, 2, 0);
        expectDeal(x, 2, 0, 1, 0, 71, 10);
    }

    private static void dealsWithNothing() {
        LongStrike x = Checks.valley(1, 1);
        x.shelf(0, 2, 0);
        x.sheet(0, 2, 5);
        x.shelf(1, 3, 0);
        int[][] none = {{-1, 0}, {4, 0}, {0, -1}, {0, 4}, {1, 0}, {2, 0}, {MIN, 0}, {0, MAX}};
        for (int[] n : none) {
            x.deal(0, 0, 1);
            T.due("a trace", x.many(15), 1);
            expectDeal(x, n[0], n[1], 5, 0);
        }
    }

    private static void partedByZero() {
        LongStrike x = Checks.valley(1, 2);
        x.shop(0, 0);
        x.shop(0, 0);
        x.household(0, 0, 1, 9000, 50);
        x.household(0, 0, 1, 0, 1);
        x.shelf(0, 2, 1);
        expectDeal(x, 0, 3, 8, -15, 41, 13);
        x.shelf(1, 1, 1);
        expectDeal(x, 1, 3, 8, -15, 13);
        x.shelf(2, 0, 1);
        expectDeal(x, 2, 3, 8, -15, 13);
        x.days(1);
        T.due("back", x.taken(2, 5), 1);
        expectDeal(x, 2, 3, 8, -15, 61, 13);
        expectDeal(x, 2, 0, 8, 8, 20, 10);
        x.shelf(0, 2, 0);
        expectDeal(x, 0, 3, 15, -15, 41, 13);
    }

    private static void wrapping() {
        LongStrike x = Checks.valley(1, 1);
        x.shop(0, 1);
        x.shelf(0, 1, 0);
        expectDeal(x, 0, 0, MAX, MIN, 10);
        expectDeal(x, 0, 1, MAX, 0, 30, 11, 10);
        expectDeal(x, 0, 1, MAX / 2, MIN, 30, 11, 10);
        expectDeal(x, 0, 3, MIN, MIN, 13);
        x.shelf(0, 2, 0);
        expectDeal(x, 0, 2, MAX - 9999, (MAX * 2) * 3, 40, 12, 11, 10);
    }

    private static void many() {
        LongStrike x = Checks.valley(6, 4);
        for (int i = 0; i < 3; i++) x.shop(0, 9);
        for (int i = 0; i < 5; i++) x.household(0, 0, 1, 0, i < 2 ? 1 : 50);
        x.days(1);
        x.news(0, 1);
        x.news(0, 1);
        x.paper(4);
        x.ship(5, 1);
        x.ship(5, 1);
        x.ship(5, 1);
        x.gift(true, 44);
        x.gift(false, 55);
        x.post(false, 0);
        for (int i = 0; i < 2; i++) x.post(true, 0);
        x.watch(0);
        for (int i = 0; i < 8; i++) x.clause(1);
        x.feed(0, 7);
        x.shelf(0, 2, 0);
        x.deal(0, 2, 1);
        int[] due = {1, 6, 4, 3, 5, 2, 1, 3, 44, 55, 1, 2, 1, 8, 7, 4, 0};
        for (int what = 0; what < due.length; what++) T.due("many(" + what + ")", x.many(what), due[what]);
        x.days(60);
        T.due("many(16)", x.many(16), 5);
        for (int what : new int[] {-1, 17, MIN, MAX}) T.due("many(" + what + ")", x.many(what), -1);
    }
}
