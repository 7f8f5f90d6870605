/** Promises 27 to 32: posts, the watch, its rows and their reader. */
public final class PicketsTest {
    private static final Checks T = new Checks("PicketsTest");
    private static final int MIN = Integer.MIN_VALUE, MAX = Integer.MAX_VALUE;

    public static void main(String[] args) {
        posts();
        wrongWatches();
        noWatch();
        leastWalks();
        lesserGates();
        rowsToldForNoGate();
        rows();
        reader();
        manyMen();
        T.end();
    }

    private static void posts() {
        LongStrike x = new LongStrike();
        T.due("no village", x.post(true, 0), -1);
        x.village();
        for (int v : new int[] {-1, 1, MIN, MAX}) {
            T.due("post(true, " + v + ")", x.post(true, v), -1);
            T.due("post(false, " + v + ")", x.post(false, v), -1);
        }
        for (int i = 0; i < 4; i++) T.due("a gate", x.post(false, 0), i);
        T.due("a fifth gate", x.post(false, 0), -2);
        for (int i = 0; i < 8; i++) T.due("a man", x.post(true, 0), i);
        T.due("a ninth man", x.post(true, 0), -2);
        T.due("a ninth man nowhere: BAD first", x.post(true, 1), -1);
        T.due("a fifth gate nowhere: BAD first", x.post(false, 1), -1);
        T.due("many(10)", x.many(10), 4);
        T.due("many(11)", x.many(11), 8);
    }

    private static void wrongWatches() {
        LongStrike x = new LongStrike();
        x.village();
        x.post(true, 0);
        for (int what : new int[] {-1, 2, 9, 11, MIN, MAX}) T.due("watch(" + what + ")", x.watch(what), -1);
        T.due("no rows were told", x.judge(), -3);
        T.due("nobody stands anywhere", x.watch(0), 0);
        T.due("nobody walks", x.watch(1), 0);
        T.due("a man without gates", x.watch(10), -9);
        T.due("no rows", x.many(12), 0);
        T.due("all right", x.judge(), 0);
        x.post(false, 0);
        x.post(false, 0);
        T.due("BAD ahead of NONE", x.watch(11), -1);
        T.due("two gates, one man", x.watch(10), -3);
    }

    private static void noWatch() {
        LongStrike x = Checks.valley(2, 0);
        x.road(0, 1, 5);
        x.post(false, 0);
        T.due("a gate, nobody", x.watch(0), -3);
        T.due("none yet", x.judge(), -3);
        x.post(true, 1);
        x.set(2, 4);
        T.due("too far", x.watch(0), -3);
        x.set(2, 5);
        T.due("just as far as told", x.watch(0), 1);
        T.due("its walk", x.watch(1), 5);
        T.due("told", x.many(12), 1);
        x.post(false, 1);
        T.due("two gates, one man", x.watch(0), -3);
        T.due("rows of the latest that was not refused", x.many(12), 1);
        T.due("right as that one told them", x.judge(), 0);
        x.set(2, 0);
        x.post(true, 0);
        T.due("everyone at his own gate", x.watch(1), 0);
        T.due("man 0 is in village 1", x.watch(10), 1);
        T.due("man 1 is in village 0", x.watch(11), 0);
    }

    private static void leastWalks() {
        LongStrike x = Checks.valley(4, 0);
        x.road(0, 1, 1);
        x.road(0, 2, 2);
        x.road(1, 2, 9);
        x.road(0, 3, 4);
        x.road(1, 3, 1);
        x.road(2, 3, 9);
        x.post(false, 0);
        x.post(false, 3);
        x.post(true, 1);
        x.post(true, 2);
        // man 0 is nearest to gate 0, too, but man 1 must have it
        T.due("the least sum, not the nearest first", x.watch(1), 3);
        T.due("man 0", x.watch(10), 1);
        T.due("man 1", x.watch(11), 0);
        x.post(true, 0);
        T.due("two are enough", x.watch(0), 2);
        T.due("a better one", x.watch(1), 1);
        T.due("man 1 needn't go", x.watch(11), -9);
        T.due("man 2", x.watch(12), 0);
    }

    private static void lesserGates() {
        LongStrike x = Checks.valley(2, 0);
        for (int i = 0; i < 3; i++) x.post(false, 0);
        for (int i = 0; i < 5; i++) x.post(true, 0);
        int[] first = {0, 1, 2, -9, -9};
        for (int m = 0; m < 5; m++) T.due("man " + m, x.watch(10 + m), first[m]);
        LongStrike y = Checks.valley(2, 0);
        y.post(false, 1);
        y.post(false, 0);
        y.post(true, 0);
        y.post(true, 0);
        y.post(true, 1);
        int[] second = {1, -9, 0};
        for (int m = 0; m < 3; m++) T.due("man " + m, y.watch(10 + m), second[m]);
        LongStrike z = Checks.valley(3, 0);
        z.post(false, 0);
        z.post(false, 1);
        z.post(true, 2);
        z.post(true, 2);
        z.post(true, 2);
        T.due("any two are as good: the first", z.watch(10), 0);
        T.due("the second", z.watch(11), 1);
        T.due("none behind all", z.watch(12), -9);
    }

    private static void rowsToldForNoGate() {
        LongStrike x = Checks.valley(1, 0);
        x.post(false, 0);
        x.post(true, 0);
        x.post(true, 0);
        T.due("the second man stands nowhere", x.watch(11), -9);
        T.due("rows are told by that, too", x.many(12), 1);
        T.due("the reader", x.judge(), 0);
    }

    private static void rows() {
        LongStrike x = Checks.valley(3, 0);
        x.post(false, 2);
        x.post(false, 1);
        x.post(true, 0);
        x.post(true, 1);
        x.post(true, 2);
        T.due("no rows yet", x.row(0, 0), -9);
        T.due("no rows yet", x.alterRow(0, 0, 1), -9);
        T.due("two men", x.watch(0), 2);
        int[][] told = {{1, 1}, {2, 0}};
        for (int i = 0; i < 2; i++) {
            for (int what = 0; what < 2; what++) T.due("row(" + i + ", " + what + ")", x.row(i, what), told[i][what]);
        }
        int[][] wrong = {{-1, 0}, {2, 0}, {0, -1}, {0, 2}, {MIN, 0}, {0, MAX}, {MAX, MAX}};
        for (int[] w : wrong) {
            T.due("row(" + w[0] + ", " + w[1] + ")", x.row(w[0], w[1]), -9);
            T.due("alterRow(" + w[0] + ", " + w[1] + ", 5)", x.alterRow(w[0], w[1], 5), -9);
        }
        T.due("wrong ones changed nothing", x.judge(), 0);
        T.due("altered", x.alterRow(1, 0, MIN), 2);
        T.due("any number", x.row(1, 0), MIN);
        T.due("altered back", x.alterRow(1, 0, 2), MIN);
        T.due("dropped", x.dropRow(), 1);
        T.due("the latest one went", x.row(1, 0), -9);
        T.due("the first stays", x.row(0, 0), 1);
        T.due("dropped", x.dropRow(), 0);
        T.due("none left", x.dropRow(), -3);
        T.due("a new watch tells them anew", x.watch(0), 2);
        T.due("many(12)", x.many(12), 2);
    }

    private static void reader() {
        LongStrike x = Checks.valley(1, 0);
        for (int i = 0; i < 3; i++) {
            x.post(false, 0);
            x.post(true, 0);
        }
        x.watch(0);
        T.due("all are right", x.judge(), 0);
        x.alterRow(2, 1, 0);
        T.due("the third", x.judge(), 3);
        x.alterRow(1, 0, 7);
        T.due("the second is the first that isn't so", x.judge(), 2);
        x.dropRow();
        T.due("a wrong one ahead of too few", x.judge(), 2);
        x.alterRow(1, 0, 1);
        T.due("right, but too few", x.judge(), 3);
        x.dropRow();
        x.dropRow();
        T.due("none at all", x.judge(), 1);
        x.watch(1);
        x.set(2, 0);
        x.village();
        x.post(true, 1);
        x.post(false, 1);
        T.due("as watch() told them then", x.judge(), 0);
    }

    private static void manyMen() {
        LongStrike x = Checks.valley(6, 0);
        for (int a = 0; a < 6; a++) {
            for (int b = 0; b < a; b++) x.road(a, b, a + b);
        }
        for (int g = 0; g < 4; g++) x.post(false, 5 - g);
        for (int m = 0; m < 8; m++) x.post(true, m % 3);
        x.set(2, 6);
        // gates in 5, 4, 3, 2; men in 0, 1, 2, 0, 1, 2, 0, 1; roads are sums: 0-5 is 5, 1-5 is 6, 2-5 is too far
        T.due("four men", x.watch(0), 4);
        T.due("the least sum: 5 + 4 + 3 + 0", x.watch(1), 12);
        int[] gates = {0, -9, 3, 1, -9, -9, 2, -9};
        for (int m = 0; m < 8; m++) T.due("man " + m, x.watch(10 + m), gates[m]);
        T.due("watch(18)", x.watch(18), -1);
        T.due("four rows, all right", x.judge(), 0);
        T.due("the fourth row", x.row(3, 0), 6);
        x.alterRow(3, 1, 9);
        T.due("the fourth row isn't", x.judge(), 4);
    }
}
