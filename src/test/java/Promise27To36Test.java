/** Promises 27 to 36, pickets and offers, with sections 6 and 7 of the terms: each test names its sentence. */
public final class Promise27To36Test {
    private static final Promises T = new Promises(Promise27To36Test.class);
    private static final int MIN = Integer.MIN_VALUE, MAX = Integer.MAX_VALUE;
    private static final int BAD = -1, FULL = -2, NONE = -3;
    private static final int UNION = 0;

    public static void main(String[] args) {
        T.run();
    }

    /** Gates and men in these villages of six; roads between two are told by a - b. */
    private static LongStrike pickets(int[] gates, int... men) {
        LongStrike x = Valleys.of(6, 0);
        for (int a = 0; a < 6; a++) {
            for (int b = 0; b < a; b++) x.road(a, b, a - b);
        }
        for (int g : gates) x.post(false, g);
        for (int m : men) x.post(true, m);
        return x;
    }

    private static void watched(String told, LongStrike x, int walks, int... gates) {
        int at = 0;
        for (int g : gates) if (g >= 0) at++;
        T.due(told + ": watch(0)", x.watch(0), at);
        T.due(told + ": watch(1)", x.watch(1), walks);
        for (int m = 0; m < gates.length; m++) T.due(told + ": watch(" + (10 + m) + ")", x.watch(10 + m), gates[m]);
        int row = 0;
        for (int m = 0; m < gates.length; m++) {
            if (gates[m] < 0) continue;
            T.due(told + ": row(" + row + ", 0)", x.row(row, 0), m);
            T.due(told + ": row(" + row + ", 1)", x.row(row, 1), gates[m]);
            row++;
        }
        T.due(told + ": rows", x.many(12), at);
        T.due(told + ": judge()", x.judge(), 0);
    }

    // ---- 27: post

    private static void p27_numbers() {
        T.sentence(27, "GATES, 4 at most, each in a VILLAGE; MEN, 8 at most, each in a VILLAGE.");
        LongStrike x = Valleys.of(6, 0);
        for (int i = 0; i < 4; i++) T.due("a gate", x.post(false, 5 - i), i);
        T.due("a fifth gate", x.post(false, 0), FULL);
        for (int i = 0; i < 8; i++) T.due("a man", x.post(true, i % 6), i);
        T.due("a ninth man", x.post(true, 0), FULL);
        T.due("GATES", x.many(10), 4);
        T.due("MEN", x.many(11), 8);
        T.refused("a fifth gate", Valleys.FULL, v -> v.post(false, 0), FULL);
        T.refused("a ninth man", Valleys.FULL, v -> v.post(true, 0), FULL);
    }

    private static void p27_bad() {
        T.sentence(27, "A GATE (man false), or a MAN, in a VILLAGE: its number. BAD: there is no such VILLAGE; FULL.");
        for (int v : new int[] {-1, 3, MIN, MAX}) {
            T.refused("post(true, " + v + ")", Valleys.SOME, x -> x.post(true, v), BAD);
            T.refused("post(false, " + v + ")", Valleys.SOME, x -> x.post(false, v), BAD);
        }
        for (int v : new int[] {-1, 6, MIN, MAX}) {
            T.refused("BAD ahead of FULL", Valleys.FULL, x -> x.post(true, v), BAD);
            T.refused("BAD ahead of FULL", Valleys.FULL, x -> x.post(false, v), BAD);
        }
        T.due("without a village", new LongStrike().post(true, 0), BAD);
        T.due("without a village", new LongStrike().post(false, 0), BAD);
    }

    // ---- 28: watch

    private static void p28_noGateBare() {
        T.sentence(28, "THE WATCH: no GATE bare, no WALK above MILES (0 to 9); with the fewest MEN at GATES");
        watched("one of many", pickets(new int[] {0}, 0, 0, 0, 0, 0, 0, 0, 0), 0, 0, -9, -9, -9, -9, -9, -9, -9);
        watched("each at one", pickets(new int[] {3, 2, 1, 0}, 0, 1, 2, 3), 0, 3, 2, 1, 0);
        watched("the last of all", pickets(new int[] {5}, 0, 0, 0, 0, 0, 0, 0, 5), 0, -9, -9, -9, -9, -9, -9, -9, 0);
        watched("gates in one village", pickets(new int[] {2, 2, 2, 2}, 2, 2, 2, 2, 2, 2, 2, 2), 0, 0, 1, 2, 3, -9, -9, -9, -9);
        for (int gates = 1; gates <= 4; gates++) {
            for (int men = 0; men < gates; men++) {
                LongStrike x = pickets(new int[gates], new int[men]);
                T.due(men + " men, " + gates + " gates", x.watch(0), NONE);
                T.due(men + " men, " + gates + " gates", x.watch(1), NONE);
            }
            LongStrike y = pickets(new int[gates], new int[gates]);
            T.due("as many men as gates", y.watch(0), gates);
        }
    }

    private static void p28_walkUpToMiles() {
        T.sentence(28, "WALK of a MAN: ROAD. THE WATCH: no GATE bare, no WALK above MILES (0 to 9)");
        for (int way = 1; way <= 9; way++) {
            LongStrike x = Valleys.of(2, 0);
            x.road(0, 1, way);
            x.post(false, 0);
            x.post(true, 1);
            T.due("nine at first", x.watch(1), way);
            x.set(2, way);
            T.due("just " + way, x.watch(1), way);
            x.set(2, way - 1);
            T.due("above " + (way - 1), x.watch(1), NONE);
        }
        LongStrike y = pickets(new int[] {0, 1}, 1, 2);
        y.set(2, 0);
        T.due("no man for gate 0", y.watch(0), NONE);
        y.set(2, 1);
        watched("each a mile", y, 2, 0, 1);
        y.post(true, 0);
        watched("no mile", y, 0, 1, -9, 0);
        y.set(2, 0);
        watched("no mile told", y, 0, 1, -9, 0);
    }

    private static void p28_leastSum() {
        T.sentence(28, "of several the least sum of WALKS");
        watched("the second man must go to gate 0", pickets(new int[] {0, 3}, 1, 0), 2, 1, 0);
        watched("the nearest one for both", pickets(new int[] {0, 2}, 0, 5, 4), 2, 0, -9, 1);
        watched("3 and 0 rather than 1 and 3", pickets(new int[] {1, 5}, 2, 4, 1), 1, -9, 1, 0);
        LongStrike x = pickets(new int[] {0, 5}, 3, 2);
        watched("2 and 2", x, 4, 1, 0);
        x.set(2, 2);
        watched("2 and 2 at most", x, 4, 1, 0);
        x.set(2, 1);
        T.due("1 at most", x.watch(0), NONE);
        LongStrike y = pickets(new int[] {0, 1}, 0, 5);
        watched("0 and 4", y, 4, 0, 1);
        y.set(2, 3);
        T.due("4 and 5 are both too far", y.watch(0), NONE);
    }

    private static void p28_lesserGateForTheFirst() {
        T.sentence(28, "of several that in which the first MAN for whom two differ is at the lesser GATE (none behind "
            + "all).");
        watched("the first rather than the second", pickets(new int[] {1}, 0, 2), 1, 0, -9);
        watched("the first two", pickets(new int[] {2, 2}, 1, 3, 1, 3), 2, 0, 1, -9, -9);
        watched("the lesser gate for the first", pickets(new int[] {1, 1}, 1, 1), 0, 0, 1);
        // men in 1 and 1, gates in 2 and 0: all walk 1
        watched("gate 0, though in village 2", pickets(new int[] {2, 0}, 1, 1), 2, 0, 1);
        // man 0 must stay away, or the sum is more
        watched("none for the first, if the sum is less", pickets(new int[] {4, 4}, 3, 4, 4), 0, -9, 0, 1);
        // 2 and 0 can be had by men 0 and 2, 1 and 2, 0 and 3, ..: the first ones count
        watched("the first men, then the lesser gates", pickets(new int[] {5, 0, 3}, 3, 3, 0, 0, 5, 5), 0, 2, -9, 1, -9, 0, -9);
        watched("gate 1 is better than none", pickets(new int[] {0, 5}, 4, 0, 4), 1, 1, 0, -9);
        watched("four men of eight", pickets(new int[] {1, 1, 1, 1}, 0, 1, 0, 1, 0, 1, 0, 1), 0, -9, 0, -9, 1, -9, 2, -9, 3);
        watched("three that walk a mile", pickets(new int[] {1, 1, 1, 1}, 0, 0, 0, 1, 0), 3, 0, 1, 2, 3, -9);
    }

    private static void p28_withoutGates() {
        T.sentence(28, "NONE: there is none (without GATES there is one: nobody stands anywhere).");
        LongStrike x = new LongStrike();
        T.due("a new object: watch(0)", x.watch(0), 0);
        T.due("watch(1)", x.watch(1), 0);
        T.due("watch(10)", x.watch(10), BAD);
        T.due("no rows", x.many(12), 0);
        T.due("told all the same", x.judge(), 0);
        LongStrike y = pickets(new int[] {}, 0, 1, 2);
        watched("men without gates", y, 0, -9, -9, -9);
        T.refused("NONE", NO_WATCH, v -> v.watch(0), NONE);
        T.refused("NONE", NO_WATCH, v -> v.watch(1), NONE);
        T.refused("NONE", NO_WATCH, v -> v.watch(12), NONE);
    }

    /** Some, with rows told, and then with no watch any more. */
    private static final java.util.function.Supplier<LongStrike> NO_WATCH = () -> {
        LongStrike x = Valleys.SOME.get();
        x.post(false, 2);
        x.post(false, 2);
        return x;
    };

    private static void p28_noneOfAMan() {
        T.sentence(28, "10 + m the GATE of MAN m (-9: none). ROWS of it are told.");
        LongStrike x = pickets(new int[] {0}, 1, 0);
        T.due("none", x.watch(10), -9);
        T.due("ROWS are told", x.many(12), 1);
        T.due("row(0, 0)", x.row(0, 0), 1);
        x.alterRow(0, 0, 0);
        T.due("not as told", x.judge(), 1);
        T.due("none", x.watch(10), -9);
        T.due("told anew", x.row(0, 0), 1);
        T.due("right", x.judge(), 0);
        x.post(true, 0);
        T.due("the latest watch() that was not refused", x.watch(12), -9);
        T.due("one row", x.many(12), 1);
    }

    private static void p28_eightMenFourGates() {
        T.sentence(28, "with the fewest MEN at GATES; of several the least sum of WALKS; of several that in which the "
            + "first MAN for whom two differ");
        LongStrike x = Valleys.of(6, 0);
        for (int a = 0; a < 6; a++) {
            for (int b = 0; b < a; b++) x.road(a, b, a + b);
        }
        for (int g = 0; g < 4; g++) x.post(false, 5 - g);
        for (int m = 0; m < 8; m++) x.post(true, m % 3);
        x.set(2, 6);
        // gates in 5, 4, 3, 2; men in 0, 1, 2, 0, 1, 2, 0, 1; roads are sums: from 2 to 5 it is too far
        watched("5 and 4 and 3 and 0", x, 12, 0, -9, 3, 1, -9, -9, 2, -9);
        x.set(2, 4);
        T.due("nobody comes to 5", x.watch(0), NONE);
    }

    private static void p28_theRoadAsItIs() {
        T.sentence(28, "A SHIFT puts each MAN to one GATE, or to none. WALK of a MAN: ROAD.");
        LongStrike x = Valleys.of(6, 0);
        x.post(false, 5);
        x.post(true, 4);
        x.post(true, 3);
        for (int way = 1; way <= 9; way++) {
            x.road(4, 5, way);
            x.road(3, 5, 10 - way);
            T.due("watch(1)", x.watch(1), Math.min(way, 10 - way));
            T.due("watch(10)", x.watch(10), way <= 5 ? 0 : -9);
            T.due("watch(11)", x.watch(11), way <= 5 ? -9 : 0);
        }
    }

    private static void p28_rowsAreToldAnew() {
        T.sentence(28, "ROWS of it are told.");
        for (int what : new int[] {0, 1, 10, 11}) {
            LongStrike x = pickets(new int[] {0, 1}, 0, 1);
            T.due("no rows yet", x.many(12), 0);
            x.watch(what);
            T.due("rows by watch(" + what + ")", x.many(12), 2);
            x.alterRow(0, 0, 77);
            x.dropRow();
            x.watch(what);
            T.due("anew", x.many(12), 2);
            T.due("anew", x.row(0, 0), 0);
        }
    }

    private static void p28_bad() {
        T.sentence(28, "BAD: another what, no such MAN; NONE: there is none");
        for (int what : new int[] {-1, 2, 9, 13, 17, 18, MIN, MAX}) {
            T.refused("watch(" + what + ")", Valleys.SOME, x -> x.watch(what), BAD);
            T.refused("BAD ahead of NONE", NO_WATCH, x -> x.watch(what), BAD);
        }
        T.due("man 7 of eight", Valleys.FULL.get().watch(17), -9);
        T.due("man 8 of eight", Valleys.FULL.get().watch(18), BAD);
    }

    // ---- 29: row, 30: alterRow, 31: dropRow

    private static void p29_rows() {
        T.sentence(29, "ROWS of it: for each MAN at a GATE, by numbers, (MAN, GATE).");
        LongStrike x = pickets(new int[] {5, 4, 3, 2}, 0, 0, 2, 3, 0, 4, 5, 0);
        x.watch(0);
        int[][] due = {{2, 3}, {3, 2}, {5, 1}, {6, 0}};
        for (int i = 0; i < 4; i++) {
            T.due("row(" + i + ", 0)", x.row(i, 0), due[i][0]);
            T.due("row(" + i + ", 1)", x.row(i, 1), due[i][1]);
        }
        T.due("row(4, 0)", x.row(4, 0), -9);
    }

    private static void p29_noneSuch() {
        T.sentence(29, "-9: there is none such, another what.");
        int[][] wrong = {{-1, 0}, {2, 0}, {4, 0}, {MIN, 0}, {MAX, 0}, {0, -1}, {0, 2}, {0, MIN}, {0, MAX}};
        for (int[] w : wrong) T.refused(Promises.told("row", w), Valleys.SOME, x -> x.row(w[0], w[1]), -9);
        T.due("no rows yet", new LongStrike().row(0, 0), -9);
    }

    private static void p30_becomesAnything() {
        T.sentence(30, "It becomes v: what it was.");
        LongStrike x = pickets(new int[] {0, 1}, 0, 1);
        x.watch(0);
        int[] values = {7, 0, -1, -9, MIN, MAX};
        for (int i = 0; i < 2; i++) {
            for (int what = 0; what < 2; what++) {
                int was = i;
                for (int v : values) {
                    T.due(Promises.told("alterRow", i, what, v), x.alterRow(i, what, v), was);
                    T.due(Promises.told("row", i, what), x.row(i, what), v);
                    was = v;
                }
            }
        }
        T.due("no row more", x.many(12), 2);
    }

    private static void p30_noneSuch() {
        T.sentence(30, "-9 likewise.");
        int[][] wrong = {{-1, 0}, {2, 0}, {4, 0}, {MIN, 0}, {MAX, 0}, {0, -1}, {0, 2}, {0, MIN}, {0, MAX}};
        for (int[] w : wrong) T.refused(Promises.told("alterRow", w), Valleys.SOME, x -> x.alterRow(w[0], w[1], 5), -9);
        T.due("no rows yet", new LongStrike().alterRow(0, 0, 5), -9);
        LongStrike x = pickets(new int[] {0, 1}, 0, 1);
        x.watch(0);
        x.dropRow();
        T.due("a row that went", x.alterRow(1, 0, 5), -9);
    }

    private static void p31_dropped() {
        T.sentence(31, "The latest ROW goes: how many there are. NONE: there are none.");
        LongStrike x = pickets(new int[] {0, 1, 2, 3}, 0, 1, 2, 3);
        T.due("none yet", x.dropRow(), NONE);
        x.watch(0);
        for (int left = 3; left >= 0; left--) {
            T.due("dropRow()", x.dropRow(), left);
            T.due("many(12)", x.many(12), left);
            T.due("the latest went", x.row(left, 0), -9);
            if (left > 0) T.due("the one ahead stays", x.row(left - 1, 0), left - 1);
        }
        T.due("none left", x.dropRow(), NONE);
        T.due("none left", x.many(12), 0);
        T.refused("dropRow()", NO_ROWS, LongStrike::dropRow, NONE);
    }

    private static final java.util.function.Supplier<LongStrike> NO_ROWS = () -> {
        LongStrike x = Valleys.SOME.get();
        x.dropRow();
        x.dropRow();
        return x;
    };

    // ---- 32: judge

    private static void p32_theFirstThatIsntSo() {
        T.sentence(32, "THE READER: the first row that isn't so (as watch() told them then)");
        for (int i = 0; i < 4; i++) {
            for (int what = 0; what < 2; what++) {
                LongStrike x = pickets(new int[] {0, 1, 2, 3}, 0, 1, 2, 3);
                x.watch(0);
                x.alterRow(i, what, 3 - i);
                T.due("row " + i + " isn't so", x.judge(), i + 1);
                if (i < 3) x.alterRow(3, 1, 9);
                T.due("the first one", x.judge(), i + 1);
                if (i < 3) x.dropRow();
                T.due("ahead of too few", x.judge(), i + 1);
                x.alterRow(i, what, i);
                T.due("right again", x.judge(), i < 3 ? 4 : 0);
            }
        }
    }

    private static void p32_tooFewOrAllRight() {
        T.sentence(32, "how many there are, if they are right, but too few; -1: all are right.");
        LongStrike x = pickets(new int[] {0, 1, 2}, 0, 1, 2);
        x.watch(0);
        T.due("all are right", x.judge(), 0);
        for (int left = 2; left >= 0; left--) {
            x.dropRow();
            T.due(left + " are left", x.judge(), left + 1);
        }
        x.watch(1);
        T.due("told anew", x.judge(), 0);
        x.alterRow(2, 0, 7);
        x.dropRow();
        T.due("the altered one went", x.judge(), 3);
        x.dropRow();
        T.due("the first that lacks, not the one that was altered", x.judge(), 2);
    }

    private static void p32_asToldThen() {
        T.sentence(32, "THE READER on ROWS as the latest watch() that was not refused told them, and 1 more (0: all "
            + "are right).");
        LongStrike x = pickets(new int[] {0, 1}, 1, 0);
        T.due("watch(0)", x.watch(0), 2);
        x.road(0, 1, 9);
        x.set(2, 0);
        x.post(true, 0);
        T.due("nothing told anew", x.judge(), 0);
        x.post(false, 5);
        T.due("refused: NONE", x.watch(0), NONE);
        T.due("refused: BAD", x.watch(3), BAD);
        T.due("as the one ahead told them", x.judge(), 0);
        x.alterRow(0, 1, 0);
        T.due("altered", x.judge(), 1);
    }

    private static void p32_noneYet() {
        T.sentence(32, "NONE: there was none yet.");
        LongStrike x = Valleys.of(1, 0);
        T.due("none", x.judge(), NONE);
        T.due("a refused one", x.watch(5), BAD);
        T.due("none yet", x.judge(), NONE);
        x.post(false, 0);
        T.due("a refused one", x.watch(0), NONE);
        T.due("none yet", x.judge(), NONE);
        x.post(true, 0);
        T.due("none yet", x.judge(), NONE);
        T.due("one", x.watch(10), 0);
        T.due("all are right", x.judge(), 0);
    }

    // ---- 33: clause, 34: worth

    private static void p33_costs() {
        T.sentence(33, "CLAUSES, 9 at most, numbered as they come: each with a COST (0 to 99)");
        LongStrike x = new LongStrike();
        int[] costs = {0, 99, 1, 98, 50, 0, 99, 3, 4};
        for (int i = 0; i < 9; i++) T.due("clause(" + costs[i] + ")", x.clause(costs[i]), i);
        T.due("a tenth", x.clause(1), FULL);
        for (int i = 0; i < 9; i++) T.due("COST of " + i, x.ballot(1 << i, 4), costs[i]);
        T.due("COST of all", x.ballot(511, 4), 354);
        T.refused("a tenth", Valleys.FULL, v -> v.clause(1), FULL);
    }

    private static void p33_bad() {
        T.sentence(33, "A CLAUSE: its number. BAD: cost isn't as told; FULL.");
        for (int cost : new int[] {-1, 100, MIN, MAX}) {
            T.refused("clause(" + cost + ")", Valleys.SOME, x -> x.clause(cost), BAD);
            T.refused("BAD ahead of FULL", Valleys.FULL, x -> x.clause(cost), BAD);
        }
    }

    private static void p34_worths() {
        T.sentence(34, "and a WORTH for each PIT (0 to 99).");
        LongStrike x = Valleys.of(1, 4);
        for (int c = 0; c < 9; c++) x.clause(1);
        for (int c = 0; c < 9; c++) {
            for (int p = 0; p < 4; p++) T.due("0 at first", x.worth(c, p, 10 * c + p), 0);
        }
        for (int c = 0; c < 9; c++) {
            for (int p = 0; p < 4; p++) T.due("what it was", x.worth(c, p, 99), 10 * c + p);
        }
        T.due("99", x.worth(8, 3, 0), 99);
        T.due("0", x.worth(8, 3, 0), 0);
    }

    private static void p34_zeroAtFirst() {
        T.sentence(34, "WORTH of a CLAUSE for a PIT (0 at first): what it was.");
        LongStrike y = Valleys.of(1, 1);
        y.clause(1);
        y.worth(0, 0, 5);
        y.pit(0, 1, 1, 1);
        T.due("for a pit that comes later", y.worth(0, 1, 6), 0);
    }

    private static void p34_bad() {
        T.sentence(34, "BAD: there is no such CLAUSE, PIT, or v isn't as told.");
        int[][] wrong = {{-1, 0, 1}, {2, 0, 1}, {MIN, 0, 1}, {MAX, 0, 1}, {0, -1, 1}, {0, 2, 1}, {0, MIN, 1}, {0, MAX, 1}, {0, 0, -1},
            {0, 0, 100}, {0, 0, MIN}, {0, 0, MAX}};
        for (int[] w : wrong) T.refused(Promises.told("worth", w), Valleys.SOME, x -> x.worth(w[0], w[1], w[2]), BAD);
        T.due("a ninth of nine", Valleys.FULL.get().worth(9, 0, 1), BAD);
        T.due("a fourth of four", Valleys.FULL.get().worth(0, 4, 1), BAD);
        T.due("the last of each", Valleys.FULL.get().worth(8, 3, 1), 0);
        T.due("without clauses", Valleys.of(1, 1).worth(0, 0, 1), BAD);
    }

    // ---- 35: ballot

    private static void p35_content() {
        T.sentence(35, "A PIT is CONTENT with a set of CLAUSES, if the WORTHS together are its WANT (0 to 900; 50 at "
            + "first), or more.");
        LongStrike x = Valleys.of(1, 4);
        for (int c = 0; c < 9; c++) {
            x.clause(1);
            for (int p = 0; p < 4; p++) x.worth(c, p, p == 3 ? 99 : 10);
        }
        int[] sets = {0, 1, 15, 31, 63, 511};
        int[] content = {0, 8, 8, 15, 15, 15};
        for (int i = 0; i < sets.length; i++) T.due("ballot(" + sets[i] + ", 3)", x.ballot(sets[i], 3), content[i]);
        x.set(10, 90);
        x.set(11, 91);
        x.set(12, 89);
        x.set(13, 891);
        T.due("90, 91, 89 of 90; 891 of 891", x.ballot(511, 3), 1 + 4 + 8);
        x.set(13, 892);
        T.due("one too few", x.ballot(511, 3), 1 + 4);
        x.set(13, 900);
        for (int p = 0; p < 3; p++) x.set(10 + p, 0);
        T.due("a WANT of 0", x.ballot(0, 3), 7);
        T.due("a WANT of 900", x.ballot(511, 3), 7);
    }

    private static void p35_lostPitsToo() {
        T.sentence(35, "3 the PITS that are CONTENT, as bits");
        LongStrike x = Valleys.of(1, 0);
        x.pit(0, 50, 0, 1);
        x.pit(0, 1, 0, 9999);
        x.days(1);
        T.due("none without clauses", x.ballot(0, 3), 0);
        x.set(10, 0);
        T.due("one that is LOST, too", x.ballot(0, 3), 1);
        T.due("no pits", new LongStrike().ballot(0, 3), 0);
    }

    private static void p35_willsBelow10Above90() {
        T.sentence(35, "those with a WILL below 10 say yes always, those above 90 no always.");
        for (int will : new int[] {0, 9, 10, 11, 89, 90, 91, 99}) {
            LongStrike x = Valleys.home(1, 1000, will);
            x.clause(1);
            x.worth(0, 0, 50);
            T.due("yes of a will of " + will + ", not content", x.ballot(0, 0), will < 10 ? 1 : 0);
            T.due("no of a will of " + will + ", not content", x.ballot(0, 1), will < 10 ? 0 : 1);
            T.due("yes of a will of " + will + ", content", x.ballot(1, 0), will > 90 ? 0 : 1);
            T.due("no of a will of " + will + ", content", x.ballot(1, 1), will > 90 ? 1 : 0);
        }
    }

    private static void p35_whoVotes() {
        T.sentence(35, "A BALLOT on a set: of HOUSEHOLDS that MAY VOTE and aren't BACK, those of PITS that are CONTENT "
            + "say yes; others no");
        LongStrike x = Valleys.of(2, 2);
        int[][] homes = {{0, 0, 50}, {1, 0, 50}, {0, 1, 50}, {0, 1, 50}, {1, 1, 1}, {1, 0, 95}};
        for (int[] h : homes) x.household(h[0], h[1], 1, h[2] == 1 ? 0 : 1000, h[2]);
        x.set(10, 0);
        T.due("yes", x.ballot(0, 0), 3);
        T.due("no", x.ballot(0, 1), 3);
        x.days(1);
        T.due("BACK", x.of(4, 10), 1);
        T.due("yes without the one that is BACK", x.ballot(0, 0), 2);
        T.due("no", x.ballot(0, 1), 3);
        Valleys.read(x, UNION, "vote if village = 0;");
        T.due("yes of those that may vote", x.ballot(0, 0), 1);
        T.due("no of those that may vote", x.ballot(0, 1), 2);
        Valleys.read(x, UNION, "vote if village = 5;");
        T.due("nobody", x.ballot(0, 0), 0);
        T.due("nobody", x.ballot(0, 1), 0);
        LongStrike y = Valleys.home(1, 1000, 50);
        Valleys.read(y, 2, "evict 0;");
        y.paper(0);
        y.evict(0);
        T.due("one that is EVICTED votes", y.ballot(0, 1), 1);
    }

    private static void p35_eachPit() {
        T.sentence(35, "those of PITS that are CONTENT say yes; others no");
        LongStrike x = Valleys.of(1, 4);
        for (int i = 0; i < 15; i++) x.household(0, i < 1 ? 0 : i < 3 ? 1 : i < 7 ? 2 : 3, 1, 1000, 50);
        for (int c = 0; c < 4; c++) {
            x.clause(1);
            x.worth(c, c, 50);
        }
        for (int set = 0; set < 16; set++) {
            T.due("content with " + set, x.ballot(set, 3), set);
            T.due("yes to " + set, x.ballot(set, 0), set);
            T.due("no to " + set, x.ballot(set, 1), 15 - set);
            T.due("carried with " + set, x.ballot(set, 2), set > 7 ? 1 : 0);
        }
        T.due("the last one alone is more than half", x.offer(), 8);
    }

    private static void p35_quorumPercents() {
        T.sentence(35, "Carried: VOTES (yes and no) are QUORUM percents of all HOUSEHOLDS (BACK, too), or more, and "
            + "yes is more than no.");
        // of so many households so many vote, all yes: the most quorum with which it is carried
        int[][] due = {{1, 1, 100}, {2, 1, 50}, {3, 1, 33}, {3, 2, 66}, {7, 5, 71}, {8, 1, 12}, {16, 1, 6}, {16, 15, 93}, {16, 16, 100}};
        for (int[] d : due) {
            LongStrike x = Valleys.of(1, 1);
            x.set(10, 0);
            for (int i = 0; i < d[0]; i++) x.household(0, 0, i < d[1] ? 1 : 2, 2000, 50);
            Valleys.read(x, UNION, "vote if mouths = 1; quorum " + d[2] + ";");
            T.due(d[1] + " of " + d[0] + " and a quorum of " + d[2], x.ballot(0, 2), 1);
            Valleys.read(x, UNION, "vote if mouths = 1; quorum " + (d[2] + 1) + ";");
            T.due(d[1] + " of " + d[0] + " and a quorum of " + (d[2] + 1), x.ballot(0, 2), 0);
        }
        LongStrike y = Valleys.of(1, 1);
        y.set(10, 0);
        for (int i = 0; i < 4; i++) y.household(0, 0, 1, i < 2 ? 0 : 1000, i < 2 ? 1 : 50);
        Valleys.read(y, UNION, "quorum 51;");
        y.days(1);
        T.due("yes", y.ballot(0, 0), 2);
        T.due("those that are BACK are of all", y.ballot(0, 2), 0);
        Valleys.read(y, UNION, "");
        T.due("50 without a line", y.ballot(0, 2), 1);
        Valleys.read(y, UNION, "quorum 999;");
        T.due("999 percents", y.ballot(0, 2), 0);
        Valleys.read(y, UNION, "quorum 0; vote if mouths = 2;");
        T.due("none votes: yes isn't more than no", y.ballot(0, 2), 0);
    }

    private static void p35_yesIsMore() {
        T.sentence(35, "and yes is more than no.");
        int[][] due = {{1, 0, 1}, {1, 1, 0}, {2, 1, 1}, {2, 2, 0}, {1, 2, 0}, {0, 1, 0}, {8, 8, 0}, {9, 7, 1}, {7, 9, 0}, {0, 0, 0}};
        for (int[] d : due) {
            LongStrike x = Valleys.of(1, 2);
            x.set(10, 0);
            for (int i = 0; i < d[0]; i++) x.household(0, 0, 1, 1000, 50);
            for (int i = 0; i < d[1]; i++) x.household(0, 1, 1, 1000, 50);
            T.due("yes", x.ballot(0, 0), d[0]);
            T.due("no", x.ballot(0, 1), d[1]);
            T.due(d[0] + " to " + d[1], x.ballot(0, 2), d[2]);
        }
    }

    private static void p35_bad() {
        T.sentence(35, "BAD: the set has a bit of none, another what.");
        int[][] wrong = {{4, 0}, {5, 4}, {-1, 0}, {-4, 2}, {MIN, 0}, {MAX, 0}, {512, 3}, {0, -1}, {0, 5}, {0, MIN}, {0, MAX}, {3, 5}};
        for (int[] w : wrong) T.refused(Promises.told("ballot", w), Valleys.SOME, x -> x.ballot(w[0], w[1]), BAD);
        T.due("all bits of nine", Valleys.FULL.get().ballot(511, 4), 10 * 9 + 36);
        T.due("a tenth bit", Valleys.FULL.get().ballot(512, 4), BAD);
        T.due("the empty set without clauses", new LongStrike().ballot(0, 4), 0);
        T.due("the first bit without clauses", new LongStrike().ballot(1, 4), BAD);
        for (int what = 0; what <= 4; what++) {
            int asked = what;
            T.changesNothing("ballot(1, " + what + ")", Valleys.SOME, x -> x.ballot(1, asked));
        }
    }

    // ---- 36: offer

    private static LongStrike offers(int want, int[]... clauses) {
        LongStrike x = Valleys.home(1, 1000, 50);
        x.set(10, want);
        for (int i = 0; i < clauses.length; i++) {
            x.clause(clauses[i][0]);
            x.worth(i, 0, clauses[i][1]);
        }
        return x;
    }

    private static void p36_leastCost() {
        T.sentence(36, "LEAST OFFER: the set with the least COST that would be carried");
        T.due("two that cost less than one", offers(50, new int[][] {{9, 50}, {3, 25}, {5, 25}}).offer(), 6);
        T.due("one that costs less than two", offers(50, new int[][] {{7, 50}, {3, 25}, {5, 25}}).offer(), 1);
        T.due("all that there is", offers(60, new int[][] {{7, 20}, {3, 20}, {5, 20}}).offer(), 7);
        T.due("nothing at all", offers(0, new int[][] {{7, 20}, {0, 20}}).offer(), 0);
        T.due("the last one alone", offers(99, new int[][] {{1, 98}, {99, 99}}).offer(), 2);
        int[][] nine = new int[9][];
        for (int i = 0; i < 9; i++) nine[i] = new int[] {9 - i, 10};
        T.due("the five cheapest of nine", offers(50, nine).offer(), 0b111110000);
        T.due("all nine", offers(90, nine).offer(), 511);
        T.due("more than all nine", offers(91, nine).offer(), NONE);
    }

    private static void p36_allClausesAllPits() {
        T.sentence(36, "LEAST OFFER: the set with the least COST that would be carried");
        LongStrike x = Valleys.of(1, 4);
        for (int i = 0; i < 16; i++) x.household(0, i % 4, 1, 1000, 50);
        for (int i = 0; i < 9; i++) {
            x.clause(9 - i);
            for (int p = 0; p < 4; p++) x.worth(i, p, 10 * ((i + p) % 4 + 1));
        }
        // worths of all together: 210, 220, 230, 240
        for (int p = 0; p < 4; p++) x.set(10 + p, 225);
        T.due("two pits with all of them", x.ballot(511, 3), 0b1100);
        T.due("half isn't more", x.offer(), NONE);
        for (int p = 0; p < 4; p++) x.set(10 + p, 220);
        T.due("three pits with all of them", x.ballot(511, 0), 12);
        T.due("COST of all", x.ballot(511, 4), 45);
        T.due("nothing less is enough", x.offer(), 511);
    }

    private static void p36_leastAsANumber() {
        T.sentence(36, "of several the least as a number.");
        T.due("the first of three", offers(50, new int[][] {{5, 50}, {5, 50}, {5, 50}}).offer(), 1);
        T.due("one less than a later one", offers(50, new int[][] {{2, 25}, {3, 25}, {5, 50}}).offer(), 3);
        T.due("a clause for nothing isn't needed", offers(50, new int[][] {{0, 0}, {0, 9}, {5, 50}}).offer(), 4);
        T.due("two of a cost of 0 are needed", offers(50, new int[][] {{0, 25}, {5, 50}, {0, 25}}).offer(), 5);
    }

    private static void p36_none() {
        T.sentence(36, "LEAST OFFER, as bits. NONE: nothing would be carried.");
        T.due("nobody", new LongStrike().offer(), NONE);
        T.due("no clauses, content", offers(0).offer(), 0);
        T.due("no clauses, not content", offers(1).offer(), NONE);
        LongStrike x = offers(50, new int[][] {{1, 50}});
        T.due("carried", x.offer(), 1);
        Valleys.read(x, UNION, "quorum 101;");
        T.due("too few votes", x.offer(), NONE);
        LongStrike y = Valleys.home(1, 1000, 91);
        y.set(10, 0);
        T.due("a will above 90", y.offer(), NONE);
        LongStrike z = Valleys.home(1, 1000, 9);
        T.due("a will below 10", z.offer(), 0);
        T.changesNothing("offer()", Valleys.SOME, LongStrike::offer);
        T.changesNothing("offer()", Valleys.FULL, LongStrike::offer);
    }
}
