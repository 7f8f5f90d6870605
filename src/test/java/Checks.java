import java.nio.charset.StandardCharsets;

/** Counts answers that are due or not, and feeds texts: what all tests of the project need. */
final class Checks {
    private final String name;
    private int passed = 0;
    private int failed = 0;

    Checks(String name) {
        this.name = name;
    }

    void due(String call, long got, long want) {
        if (got == want) {
            passed++;
            return;
        }
        failed++;
        if (failed <= 40) {
            System.out.println(call + " answered " + got + ", due is " + want);
        }
    }

    void holds(String what, boolean isSo) {
        due(what, isSo ? 1 : 0, 1);
    }

    int failures() {
        return failed;
    }

    void end() {
        System.out.println(name + ": " + passed + " passed, " + failed + " failed");
        if (failed > 0 || passed == 0) {
            System.exit(1);
        }
    }

    static long packed(byte[] bytes, int from, int n) {
        long eight = 0;
        for (int i = 0; i < n; i++) {
            eight |= (bytes[from + i] & 0xFFL) << (8 * i);
        }
        return eight;
    }

    static void feed(LongStrike x, String text) {
        byte[] bytes = text.getBytes(StandardCharsets.ISO_8859_1);
        for (int at = 0; at < bytes.length; at += 8) {
            int n = Math.min(8, bytes.length - at);
            x.feed(packed(bytes, at, n), n);
        }
    }

    static int read(LongStrike x, int side, String text) {
        feed(x, text);
        return x.read(side);
    }

    /** A valley with so many villages and so many pits, all in village 0. */
    static LongStrike valley(int villages, int pits) {
        LongStrike x = new LongStrike();
        for (int i = 0; i < villages; i++) {
            x.village();
        }
        for (int i = 0; i < pits; i++) {
            x.pit(0, 1, 1, 9999);
        }
        return x;
    }
}
