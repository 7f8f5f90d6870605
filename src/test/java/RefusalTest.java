import java.lang.reflect.InvocationTargetException;
import java.util.Arrays;
import java.util.HashSet;
import java.util.List;
import java.util.Set;

/** A call that is refused changes nothing (but that read() uses the tape up), and a question changes nothing at all. */
public final class RefusalTest {
    private static final Checks T = new Checks("RefusalTest");
    private static final List<Calls.Call> QUESTIONS = Calls.questions();
    /** These answer below 0 without being refused, or forget the trace; the tests by subject look at them. */
    private static final Set<String> OTHERS = Set.of("deal", "item", "alterRow", "watch", "read");
    private static final Set<String> ASKING = Set.of("of", "pitOf", "shopOf", "line", "rule", "why", "hears", "draws",
        "least", "last", "row", "judge", "ballot", "offer", "item", "taken", "trace", "many", "keep");

    public static void main(String[] args) throws InvocationTargetException {
        Set<String> refused = new HashSet<>();
        for (int seed = 1; seed <= 120; seed++) oneRun(seed, refused);
        for (String name : List.of("days", "village", "road", "pit", "shop", "household", "set", "gift", "ship", "feed",
                "news", "paper", "evict", "post", "dropRow", "clause", "worth", "sheet", "put", "comes", "shelf", "again")) {
            T.holds(name + " was refused once at least", refused.contains(name));
        }
        refusedReading();
        refusedWatch();
        T.end();
    }

    private static int[] asked(LongStrike x) throws InvocationTargetException {
        int[] answers = new int[QUESTIONS.size() + 15 + 3];
        int n = 0;
        for (Calls.Call question : QUESTIONS) answers[n++] = question.on(x);
        // What only a change tells is changed and changed back.
        for (int a = 0; a < 6; a++) {
            for (int b = 0; b < a; b++) {
                answers[n] = x.road(a, b, 1);
                if (answers[n] > 0) x.road(a, b, answers[n]);
                n++;
            }
        }
        for (int what = 0; what < 3; what++) {
            answers[n] = x.set(what, 0);
            x.set(what, answers[n++]);
        }
        return answers;
    }

    private static void oneRun(int seed, Set<String> refused) throws InvocationTargetException {
        Calls source = new Calls(100000 + seed);
        LongStrike x = new LongStrike();
        List<Calls.Call> next = source.beginning();
        int[] before = null;
        for (int done = 0; done < 300; ) {
            for (Calls.Call call : next) {
                done++;
                boolean isLookedAt = !OTHERS.contains(call.name()) && done % 3 == 0;
                if (isLookedAt && before == null) before = asked(x);
                int answer = call.on(x);
                boolean mustStay = answer < 0 && !OTHERS.contains(call.name()) || ASKING.contains(call.name());
                if (answer < 0) refused.add(call.name());
                if (isLookedAt && mustStay) {
                    T.holds("seed " + seed + ": " + call + " answered " + answer + " and changed nothing",
                        Arrays.equals(before, asked(x)));
                } else if (!mustStay) {
                    before = null;
                }
            }
            next = source.more();
        }
    }

    private static void refusedReading() throws InvocationTargetException {
        LongStrike x = Checks.valley(1, 1);
        x.household(0, 0, 1, 0, 50);
        Checks.read(x, 0, "ticket 4; rank 2; vote if pit = 3;");
        int[] before = asked(x);
        T.due("a fault", Checks.read(x, 0, "ticket 9; rank 0; vote; x"), -124);
        T.holds("changed nothing", Arrays.equals(before, asked(x)));
        Checks.feed(x, "ticket 9;");
        T.due("no such side", x.read(7), -1);
        T.holds("changed nothing but the tape", Arrays.equals(before, asked(x)));
    }

    private static void refusedWatch() throws InvocationTargetException {
        LongStrike x = Checks.valley(2, 0);
        x.road(0, 1, 5);
        x.post(false, 0);
        x.post(true, 0);
        x.watch(0);
        x.alterRow(0, 0, 9);
        x.post(false, 1);
        int[] before = asked(x);
        T.due("none", x.watch(0), -3);
        T.due("no such man", x.watch(11), -1);
        T.due("no such row", x.alterRow(1, 0, 4), -9);
        T.holds("changed nothing", Arrays.equals(before, asked(x)));
    }
}
