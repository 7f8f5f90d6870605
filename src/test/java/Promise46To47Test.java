import java.util.function.Supplier;

/** Promises 46 and 47, keep and again: each test names the sentence that it holds. */
public final class Promise46To47Test {
    private static final Promises T = new Promises(Promise46To47Test.class);
    private static final int NONE = -3, NOTHING = -11;
    private static final int UNION = 0, COUNTY = 1, COMPANY = 2;

    private static final Supplier<LongStrike> SOME_KEPT = () -> kept(Valleys.SOME.get());
    private static final Supplier<LongStrike> FULL_KEPT = () -> kept(Valleys.FULL.get());
    private static final Supplier<LongStrike> NEW_KEPT = () -> kept(new LongStrike());
    private static final Supplier<LongStrike> UNKEPT = () -> {
        LongStrike x = Valleys.home(2, 1050, 50);
        x.gift(true, 9);
        x.post(false, 0);
        x.post(true, 0);
        x.watch(0);
        x.news(0, 4);
        Checks.feed(x, "vote;");
        return x;
    };

    public static void main(String[] args) {
        T.run();
    }

    private static LongStrike kept(LongStrike x) {
        x.keep();
        return x;
    }

    /** Changes what is kept, but for the rules: reading would use up THE TAPE, which must stay as it is. */
    private static void disturb(LongStrike x) {
        x.village();
        for (int a = 0; a < 6; a++) {
            for (int b = 0; b < a; b++) x.road(a, b, 7);
        }
        x.pit(0, 9, 1, 5);
        x.shop(0, 70);
        x.household(0, 0, 9, 20, 9);
        x.household(0, 1, 2, 20, 90);
        for (int what = 0; what < 4; what++) x.set(10 + what, 77);
        x.gift(true, 600);
        x.gift(false, 600);
        for (int i = 0; i < 3; i++) x.ship(12 + i, 60);
        for (int i = 0; i < 4; i++) x.news(i % 3, -9);
        for (int h = 0; h < 16; h++) x.paper(h);
        x.set(0, 1);
        x.set(1, 9);
        x.days(9);
        for (int p = 0; p < 12; p++) x.evict(p);
        x.press(true);
        x.press(false);
        x.set(0, 0);
        x.set(1, 4);
        x.set(2, 2);
        for (int i = 0; i < 2; i++) {
            x.post(false, i);
            x.post(true, i);
            x.clause(50);
        }
        for (int c = 0; c < 9; c++) {
            for (int p = 0; p < 4; p++) x.worth(c, p, 33);
        }
        x.days(50);
    }

    private static int disturbAndTakeBack(LongStrike x) {
        disturb(x);
        return x.again();
    }

    // ---- 46: keep

    private static void p46_changesNothing() {
        T.sentence(46, "All but THE TAPE, ROWS, SHEETS, SHELVES, THE TRACE is kept: 1.");
        T.due("keep()", new LongStrike().keep(), 1);
        T.due("keep() twice", kept(new LongStrike()).keep(), 1);
        T.due("keep() of a full one", Valleys.FULL.get().keep(), 1);
        T.changesNothing("keep() once more", SOME_KEPT, LongStrike::keep);
        T.changesNothing("keep() once more", FULL_KEPT, LongStrike::keep);
        LongStrike x = UNKEPT.get();
        LongStrike y = kept(UNKEPT.get());
        for (int day = 0; day < 20; day++) {
            for (int what = 0; what < 12; what++) T.due("of(0, " + what + ")", y.of(0, what), x.of(0, what));
            x.days(1);
            y.days(1);
        }
    }

    private static void p46_allIsKept() {
        T.sentence(46, "All but THE TAPE, ROWS, SHEETS, SHELVES, THE TRACE is kept: 1.");
        for (Supplier<LongStrike> made : java.util.List.of(SOME_KEPT, FULL_KEPT, NEW_KEPT)) {
            T.due("again()", disturbAndTakeBack(made.get()), 1);
            T.changesNothing("disturbed and taken back", made, Promise46To47Test::disturbAndTakeBack);
        }
    }

    private static void p46_rulesAreKept() {
        T.sentence(46, "All but THE TAPE, ROWS, SHEETS, SHELVES, THE TRACE is kept");
        LongStrike x = Valleys.home(3, 1000, 50);
        String ten = "ticket 8 if mouths = 3 and (pit = 0 or not will < 9); rank 4; vote if village = 1;";
        Valleys.read(x, UNION, ten);
        Valleys.read(x, COUNTY, "relief 6; relief 7;");
        Valleys.read(x, COMPANY, "evict 2; safety 3;");
        x.keep();
        Valleys.read(x, UNION, "rank 1; ticket 1; safety 9; quorum 3;");
        Valleys.read(x, COUNTY, "");
        Valleys.read(x, COMPANY, "evict 4;");
        T.due("other rules", x.of(0, 12), 1);
        x.again();
        int[] told = {8, 4, 6, 0};
        for (int what = 12; what <= 15; what++) T.due("of(0, " + what + ")", x.of(0, what), told[what - 12]);
        T.due("lines of the union", x.line(UNION, 2, 0), 5);
        T.due("no more of them", x.line(UNION, 3, 0), -9);
        T.due("a line of the county", x.line(COUNTY, 1, 1), 7);
        T.due("EVICT", x.rule(2), 2);
        T.due("SAFETY", x.rule(1), 0);
        T.due("QUORUM", x.rule(0), 50);
    }

    private static void p46_settingsAndBeliefs() {
        T.sentence(46, "All but THE TAPE, ROWS, SHEETS, SHELVES, THE TRACE is kept");
        LongStrike x = Valleys.home(1, 990, 20);
        Valleys.read(x, UNION, "ticket 7;");
        x.set(0, 1);
        x.set(1, 5);
        x.set(2, 3);
        x.set(10, 66);
        x.gift(true, 14);
        x.gift(false, 20);
        x.press(true);
        x.press(false);
        x.keep();
        int believed = x.last(2);
        x.days(14);
        x.press(true);
        x.press(false);
        x.set(0, 0);
        x.set(1, 6);
        x.set(2, 4);
        x.set(10, 67);
        x.again();
        T.due("PRESS of the fund", x.last(2), believed);
        T.due("PRESS of the stock", x.last(3), 4);
        T.due("THE COLD", x.set(0, 0), 1);
        T.due("BURN", x.set(1, 0), 5);
        T.due("MILES", x.set(2, 0), 3);
        T.due("WANT", x.set(10, 0), 66);
        T.due("TODAY", x.many(0), 0);
    }

    private static void p46_tapeIsNot() {
        T.sentence(46, "All but THE TAPE, ROWS, SHEETS, SHELVES, THE TRACE is kept");
        LongStrike x = new LongStrike();
        Checks.feed(x, "vot");
        x.keep();
        Checks.feed(x, "e;");
        x.again();
        T.due("THE TAPE stays as it is", x.many(14), 5);
        T.due("THE TAPE stays as it is", x.read(0), 1);
        T.due("used up", x.many(14), 0);
        x.again();
        T.due("it doesn't come back", x.many(14), 0);
        T.due("the rules do go", x.line(0, 0, 0), -9);
    }

    private static void p46_rowsAreNot() {
        T.sentence(46, "All but THE TAPE, ROWS, SHEETS, SHELVES, THE TRACE is kept");
        LongStrike x = Valleys.of(2, 0);
        for (int i = 0; i < 2; i++) {
            x.post(false, i);
            x.post(true, i);
        }
        x.keep();
        x.post(false, 0);
        x.post(true, 0);
        T.due("watch(0)", x.watch(0), 3);
        x.alterRow(2, 1, 9);
        x.again();
        T.due("ROWS stay", x.many(12), 3);
        T.due("as they are", x.row(2, 1), 9);
        T.due("judged by what was told then", x.judge(), 3);
        x.alterRow(2, 1, 2);
        T.due("judged by what was told then", x.judge(), 0);
        x.dropRow();
        x.again();
        T.due("a row that went doesn't come back", x.many(12), 2);
        T.due("too few", x.judge(), 3);
        LongStrike y = Valleys.of(1, 0);
        y.keep();
        y.watch(0);
        y.again();
        T.due("a watch() that was told stays told", y.judge(), 0);
    }

    private static void p46_sheetsShelvesTraceAreNot() {
        T.sentence(46, "All but THE TAPE, ROWS, SHEETS, SHELVES, THE TRACE is kept");
        LongStrike x = Valleys.home(2, 1000, 50);
        x.sheet(0, 2, 3);
        x.put(0, 0, 4);
        x.shelf(0, 2, 0);
        x.shelf(1, 3, 0);
        x.deal(0, 0, 1);
        x.keep();
        x.put(0, 0, 5);
        x.sheet(1, 1, 6);
        x.shelf(0, 0, 0);
        x.shelf(1, 4, 0);
        x.shelf(2, 3, 1);
        x.deal(0, 1, 1);
        x.again();
        T.due("an item", x.item(0, 2, 0), 5);
        T.due("a new sheet", x.item(1, 1, 5), 0);
        T.due("a shelf", x.taken(0, 1), 0);
        T.due("nothing on it", x.taken(1, 12), NOTHING);
        T.due("a row on it", x.taken(2, 11), 6);
        int[] trace = {11, 20, 10};
        for (int i = 0; i < 3; i++) T.due("trace(" + i + ")", x.trace(i), trace[i]);
        T.due("many(15)", x.many(15), 3);
    }

    // ---- 47: again

    private static void p47_latestWhichStays() {
        T.sentence(47, "It becomes what was kept latest (which stays): 1.");
        LongStrike x = new LongStrike();
        x.keep();
        x.village();
        x.keep();
        x.village();
        for (int i = 0; i < 4; i++) {
            T.due("again()", x.again(), 1);
            T.due("the latest", x.many(1), 1);
            T.due("TODAY", x.many(0), 0);
            if (i % 2 == 0) {
                x.village();
                x.days(60);
            }
        }
        x.village();
        x.keep();
        x.village();
        x.again();
        T.due("kept anew", x.many(1), 2);
        T.changesNothing("twice disturbed and taken back", SOME_KEPT, v -> disturbAndTakeBack(v) + disturbAndTakeBack(v));
        T.changesNothing("again() at once", FULL_KEPT, LongStrike::again);
    }

    private static void p47_keptIsNoPartOfIt() {
        T.sentence(47, "It becomes what was kept latest (which stays): 1.");
        // what is changed behind again() must not change what is kept
        LongStrike x = SOME_KEPT.get();
        x.again();
        int[] before = new int[4];
        for (int h = 0; h < 4; h++) before[h] = x.of(h, 5);
        x.days(20);
        x.worth(0, 0, 1);
        x.road(0, 1, 9);
        x.again();
        for (int h = 0; h < 4; h++) T.due("WILL", x.of(h, 5), before[h]);
        T.due("WORTH", x.worth(0, 0, 0), 40);
        T.due("ROAD", x.road(0, 1, 1), 2);
    }

    private static void p47_none() {
        T.sentence(47, "NONE: nothing is kept.");
        T.refused("again()", UNKEPT, LongStrike::again, NONE);
        T.refused("again()", Valleys.NEW, LongStrike::again, NONE);
    }

    private static void p47_whatWasntThereComesAnew() {
        T.sentence(47, "It becomes what was kept latest");
        LongStrike x = Valleys.of(1, 1);
        x.clause(1);
        x.keep();
        for (int i = 0; i < 5; i++) x.village();
        for (int a = 0; a < 6; a++) {
            for (int b = 0; b < a; b++) x.road(a, b, 9);
        }
        x.pit(0, 50, 0, 1);
        x.set(11, 9);
        x.worth(0, 1, 9);
        x.clause(5);
        x.worth(1, 0, 9);
        x.shop(0, 5);
        x.household(0, 0, 9, 9050, 40);
        x.household(0, 0, 9, 90, 4);
        x.household(0, 0, 9, 90, 2);
        Valleys.read(x, COUNTY, "relief 50;");
        Valleys.read(x, COMPANY, "evict 0;");
        x.set(0, 1);
        for (int i = 0; i < 3; i++) x.paper(i % 2);
        x.evict(2);
        x.ship(9, 50);
        x.days(1);
        x.news(0, 20);
        x.days(6);
        T.due("BACK", x.of(2, 10), 1);
        T.due("void", x.evict(1), 2);
        for (int what = 6; what <= 11; what++) {
            if (what != 10) T.due("of(0, " + what + ") is something", x.of(0, what) > 0 ? 1 : 0, 1);
        }
        x.again();
        for (int i = 1; i < 6; i++) T.due("a new village", x.village(), i);
        for (int a = 0; a < 6; a++) {
            for (int b = 0; b < a; b++) T.due("its roads", x.road(a, b, 1), 1);
        }
        T.due("a new pit", x.pit(0, 1, 0, 9), 1);
        int[] pit = {0, 0, NONE, 50, 9};
        for (int what = 0; what < pit.length; what++) T.due("pitOf(1, " + what + ")", x.pitOf(1, what), pit[what]);
        T.due("its worth", x.worth(0, 1, 1), 0);
        T.due("a new clause", x.clause(3), 1);
        T.due("its worth", x.worth(1, 0, 1), 0);
        T.due("its worth", x.worth(1, 1, 1), 0);
        T.due("a new shop", x.shop(0, 5), 0);
        T.due("it lent nothing", x.shopOf(0, 2), 0);
        int[] of = {0, 0, 2, 1, 0, 50, 0, 0, 0, 0, 0, 0, 0, 9, 0, 1};
        for (int h = 0; h < 3; h++) {
            T.due("a new household", x.household(0, 0, 2, 1000, 50), h);
            for (int what = 0; what < of.length; what++) T.due("of(" + h + ", " + what + ")", x.of(h, what), of[what]);
        }
        for (int i = 0; i < 3; i++) {
            T.due("a new paper", x.paper(0), i);
            T.due("it isn't void", x.evict(i), 0);
        }
        T.due("a new ship", x.ship(2, 3), 1);
        T.due("new news", x.news(0, -3), 0);
        x.days(2);
        T.due("it brings its own", x.many(9), 3);
        T.due("it is heard", x.of(0, 5), 50 + 1 - 3 + 1);
    }

    private static void p47_voidPapersToo() {
        T.sentence(47, "It becomes what was kept latest");
        LongStrike x = Valleys.of(1, 1);
        for (int i = 0; i < 2; i++) x.household(0, 0, 1, 3000, 50);
        x.paper(0);
        x.paper(1);
        x.days(7);
        x.keep();
        Valleys.read(x, COMPANY, "evict 1;");
        T.due("evicted", x.evict(0), 1);
        Valleys.read(x, COMPANY, "evict 0;");
        T.due("void", x.evict(1), 2);
        x.again();
        T.due("not evicted", x.of(0, 11), 0);
        T.due("its garden", x.of(0, 3), 3);
        Valleys.read(x, COMPANY, "evict 1;");
        T.due("not void", x.evict(1), 1);
        T.due("on its day", x.evict(0), 1);
        LongStrike y = Valleys.home(1, 3000, 50);
        y.paper(0);
        y.days(8);
        Valleys.read(y, COMPANY, "evict 1;");
        T.due("void", y.evict(0), 2);
        y.keep();
        y.paper(0);
        y.again();
        Valleys.read(y, COMPANY, "evict 2;");
        T.due("void is kept", y.evict(0), 2);
    }
}
