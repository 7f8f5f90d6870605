import java.lang.reflect.InvocationTargetException;
import java.lang.reflect.Method;
import java.util.ArrayList;
import java.util.Arrays;
import java.util.Comparator;
import java.util.IdentityHashMap;
import java.util.List;
import java.util.Map;
import java.util.function.Supplier;
import java.util.function.ToIntFunction;

/**
 * Runs the tests of a class: its methods named p and the promise's number (p02_...). The first line of each names the
 * promise and the words of the document that it holds; they are told with each answer that isn't the one that is due.
 */
final class Promises {
    private static final int TOLD_MOST = 60;
    /** An object is used for 512 calls at most: a picture of one takes many objects, a few questions each. */
    private static final int ASKED_OF_ONE = 140;
    private static final List<Calls.Call> QUESTIONS = questions();
    private static final List<List<Calls.Call>> BEFORE_ASKING = List.of(
        List.of(),
        List.of(new Calls.Call("days", 1)),
        List.of(new Calls.Call("days", 9)),
        List.of(new Calls.Call("read", 0)),
        List.of(new Calls.Call("again"), new Calls.Call("days", 2)));

    private final Class<?> tests;
    private final Map<Supplier<LongStrike>, int[]> pictures = new IdentityHashMap<>();
    private String sentence = null;
    private int passed = 0;
    private int failed = 0;

    Promises(Class<?> tests) {
        this.tests = tests;
    }

    void run() {
        Method[] methods = tests.getDeclaredMethods();
        Arrays.sort(methods, Comparator.comparing(Method::getName));
        for (Method method : methods) {
            if (method.getName().matches("p\\d\\d_\\w+")) runOne(method);
        }
        System.out.println(tests.getName() + ": " + passed + " passed, " + failed + " failed");
        if (failed > 0 || passed == 0) System.exit(1);
    }

    private void runOne(Method method) {
        sentence = null;
        int before = passed + failed;
        try {
            method.setAccessible(true);
            method.invoke(null);
        } catch (IllegalAccessException | InvocationTargetException e) {
            e.printStackTrace(System.out);
            fail(method.getName() + " threw");
        }
        if (sentence == null || passed + failed == before) fail(method.getName() + " names or holds nothing");
    }

    /** The first line of a test: one sentence to a test. */
    void sentence(int promise, String words) {
        if (sentence != null) fail("a second sentence: " + words);
        sentence = "Promise " + promise + ": \"" + words + "\"";
    }

    void due(String call, long got, long want) {
        if (got == want) {
            passed++;
            return;
        }
        fail(call + " answered " + got + ", due is " + want);
    }

    private void fail(String told) {
        failed++;
        if (failed <= TOLD_MOST) System.out.println(sentence + "\n  " + told);
    }

    /** The call answers as is due, and behind it all is as if it had not been made. */
    void refused(String told, Supplier<LongStrike> made, ToIntFunction<LongStrike> call, int want) {
        due(told, call.applyAsInt(made.get()), want);
        changesNothing(told, made, call);
    }

    void changesNothing(String told, Supplier<LongStrike> made, ToIntFunction<LongStrike> call) {
        int[] before = pictures.computeIfAbsent(made, key -> picture(key, x -> 0));
        int[] after = picture(made, call);
        for (int i = 0; i < before.length; i++) {
            if (before[i] != after[i]) {
                List<Calls.Call> ahead = BEFORE_ASKING.get(i / QUESTIONS.size());
                fail(told + " changed " + ahead + " " + QUESTIONS.get(i % QUESTIONS.size()) + " from " + before[i] + " to " + after[i]);
                return;
            }
        }
        passed++;
    }

    private static int[] picture(Supplier<LongStrike> made, ToIntFunction<LongStrike> call) {
        int[] answers = new int[BEFORE_ASKING.size() * QUESTIONS.size()];
        int n = 0;
        for (List<Calls.Call> ahead : BEFORE_ASKING) {
            for (int from = 0; from < QUESTIONS.size(); from += ASKED_OF_ONE) {
                LongStrike x = made.get();
                call.applyAsInt(x);
                for (Calls.Call first : ahead) answer(first, x);
                int to = Math.min(QUESTIONS.size(), from + ASKED_OF_ONE);
                for (Calls.Call question : QUESTIONS.subList(from, to)) answers[n++] = answer(question, x);
            }
        }
        return answers;
    }

    private static int answer(Calls.Call call, LongStrike x) {
        try {
            return call.on(x);
        } catch (InvocationTargetException e) {
            throw new IllegalStateException(call + " threw", e.getCause());
        }
    }

    /** What can be asked, and behind it what only a change tells (it is asked of an object that is thrown away). */
    private static List<Calls.Call> questions() {
        List<Calls.Call> all = new ArrayList<>(Calls.questions());
        for (int a = 0; a < 6; a++) {
            for (int b = 0; b < a; b++) all.add(new Calls.Call("road", a, b, 5));
        }
        for (int what = 0; what < 3; what++) all.add(new Calls.Call("set", what, 1));
        for (int c = 0; c < 9; c++) {
            for (int p = 0; p < 4; p++) all.add(new Calls.Call("worth", c, p, 1));
        }
        for (int p = 0; p < 12; p++) all.add(new Calls.Call("evict", p));
        all.add(new Calls.Call("watch", 0));
        all.add(new Calls.Call("watch", 1));
        return all;
    }

    static String told(String name, int... numbers) {
        StringBuilder told = new StringBuilder(name).append('(');
        for (int i = 0; i < numbers.length; i++) told.append(i == 0 ? "" : ", ").append(numbers[i]);
        return told.append(')').toString();
    }
}
