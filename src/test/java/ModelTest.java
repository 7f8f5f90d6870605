import java.lang.reflect.InvocationTargetException;
import java.util.ArrayList;
import java.util.List;

/** Random runs, always the same ones: LongStrike must answer as PlainStrike does, and no call may throw. */
public final class ModelTest {
    private static final int RUNS = 2000;
    /** An object is used for 512 calls: so many of a run, and so many questions behind them, others in each run. */
    private static final int CALLS = 320, QUESTIONS = 140;

    public static void main(String[] args) {
        Checks checks = new Checks("ModelTest");
        int runs = args.length > 0 ? Integer.parseInt(args[0]) : RUNS;
        int from = args.length > 1 ? Integer.parseInt(args[1]) : 1;
        for (int seed = from; seed < from + runs && checks.failures() < 5; seed++) {
            oneRun(checks, seed);
        }
        checks.end();
    }

    private static void oneRun(Checks checks, int seed) {
        Calls source = new Calls(seed);
        LongStrike x = new LongStrike();
        PlainStrike plain = new PlainStrike();
        List<Calls.Call> done = new ArrayList<>();
        List<Calls.Call> next = source.beginning();
        while (done.size() < CALLS) {
            for (Calls.Call call : next) {
                done.add(call);
                if (!agree(checks, seed, call, x, plain, done)) return;
            }
            next = source.more();
        }
        List<Calls.Call> questions = Calls.questions();
        for (int i = 0; i < QUESTIONS; i++) {
            Calls.Call call = questions.get(Math.floorMod(seed * QUESTIONS + i, questions.size()));
            if (!agree(checks, seed, call, x, plain, done)) return;
        }
    }

    private static boolean agree(Checks checks, int seed, Calls.Call call, LongStrike x, PlainStrike plain,
            List<Calls.Call> done) {
        try {
            int want = call.on(plain);
            int got = call.on(x);
            checks.due("seed " + seed + ", call " + done.size() + ": " + call, got, want);
            if (got != want) {
                System.out.println("  behind " + done.subList(Math.max(0, done.size() - 12), done.size()));
            }
            return got == want;
        } catch (InvocationTargetException e) {
            checks.holds("seed " + seed + ": " + call + " threw " + e.getCause(), false);
            e.getCause().printStackTrace(System.out);
            return false;
        }
    }
}
