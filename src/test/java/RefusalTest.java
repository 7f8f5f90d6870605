import java.lang.reflect.InvocationTargetException;
import java.util.ArrayList;
import java.util.HashSet;
import java.util.List;
import java.util.Set;
import java.util.function.Supplier;

/** A call that is refused, or that only asks, changes nothing: random runs, always the same ones. */
public final class RefusalTest {
    private static final Promises T = new Promises(RefusalTest.class);
    private static final int RUNS = 60, CALLS = 230, TRIED = 40;
    /** These may answer below 0 without being refused, or forget the trace, or use the tape up. */
    private static final Set<String> OTHERS = Set.of("deal", "alterRow", "watch", "read");
    private static final Set<String> ASKING = Set.of("of", "pitOf", "shopOf", "line", "rule", "why", "hears", "draws",
        "least", "last", "row", "judge", "ballot", "offer", "item", "taken", "trace", "many");
    private static final List<String> REFUSING = List.of("days", "village", "road", "pit", "shop", "household", "set", "gift", "ship",
        "feed", "news", "paper", "evict", "post", "dropRow", "clause", "worth", "sheet", "put", "comes", "shelf");

    public static void main(String[] args) {
        T.run();
    }

    private static void p00_refusedCallsOfRandomRuns() {
        T.sentence(0, "Answers below 0, where not told otherwise, are refusals; such a call changes nothing (but that "
            + "read() uses THE TAPE up)");
        Set<String> refused = new HashSet<>();
        for (int seed = 1; seed <= RUNS; seed++) oneRun(new Calls(100000 + seed), refused);
        for (String name : REFUSING) T.due(name + "() was refused once at least", refused.contains(name) ? 1 : 0, 1);
    }

    private static void oneRun(Calls source, Set<String> refused) {
        List<Calls.Call> lived = new ArrayList<>(source.beginning());
        while (lived.size() < CALLS) lived.addAll(source.more());
        Supplier<LongStrike> made = () -> {
            LongStrike x = new LongStrike();
            for (Calls.Call call : lived) answer(call, x);
            return x;
        };
        for (int tried = 0; tried < TRIED; tried++) {
            for (Calls.Call call : source.more()) {
                if (OTHERS.contains(call.name())) continue;
                int due = answer(call, made.get());
                if (due >= 0 && !ASKING.contains(call.name())) continue;
                T.refused(call.toString(), made, x -> answer(call, x), due);
                if (due < 0) refused.add(call.name());
            }
        }
    }

    private static int answer(Calls.Call call, LongStrike x) {
        try {
            return call.on(x);
        } catch (InvocationTargetException e) {
            throw new IllegalStateException(call + " threw", e.getCause());
        }
    }
}
