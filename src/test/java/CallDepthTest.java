import java.io.PrintWriter;
import java.io.StringWriter;
import java.util.ArrayList;
import java.util.LinkedHashSet;
import java.util.List;
import java.util.Map;
import java.util.Set;
import java.util.TreeMap;
import java.util.TreeSet;
import java.util.regex.Matcher;
import java.util.regex.Pattern;
import java.util.spi.ToolProvider;

/** Rule 11 of LANGUAGE.md, by the class as it is compiled: calls that are no recursion go at most eight deep. */
public final class CallDepthTest {
    private static final Checks T = new Checks("CallDepthTest");
    private static final int DEEPEST = 8;
    private static final Pattern CLASS = Pattern.compile("^(?:\\w+ )*class (LongStrike\\S*) .*");
    private static final Pattern METHOD = Pattern.compile("^  (?:[\\w$.\\[\\]]+ )*([\\w$.]+)\\(.*\\);$");
    private static final Pattern CALL = Pattern.compile(".*// Method (\\S+?):.*");

    private final Map<String, Set<String>> calls = new TreeMap<>();
    private List<String> longest = List.of();

    private CallDepthTest() {
    }

    public static void main(String[] args) {
        if (ToolProvider.findFirst("javap").isEmpty()) {
            System.out.println("CallDepthTest: not looked at, for this JDK has no javap");
            return;
        }
        CallDepthTest test = new CallDepthTest();
        test.look();
        T.holds("the methods were found", test.calls.size() > 150 && test.calls.containsKey("LongStrike.days"));
        for (String method : test.calls.keySet()) {
            if (method.startsWith("LongStrike.")) test.follow(method, new LinkedHashSet<>());
        }
        T.holds("calls were found", test.longest.size() > 4);
        T.holds("too deep: " + test.longest, test.longest.size() <= DEEPEST);
        T.end();
    }

    private void look() {
        List<String> asked = new ArrayList<>(List.of("-p", "-c", "-cp", System.getProperty("java.class.path"), "LongStrike"));
        for (Class<?> inside : LongStrike.class.getDeclaredClasses()) asked.add(inside.getName());
        StringWriter told = new StringWriter();
        PrintWriter out = new PrintWriter(told, true);
        int code = ToolProvider.findFirst("javap").orElseThrow().run(out, out, asked.toArray(new String[0]));
        T.due("javap", code, 0);
        String type = null;
        String method = null;
        for (String line : told.toString().split("\\R")) {
            Matcher found = CLASS.matcher(line);
            if (found.matches()) type = found.group(1);
            found = METHOD.matcher(line);
            if (found.matches() && type != null) {
                method = type + "." + (found.group(1).equals(type) ? "<init>" : found.group(1));
                calls.putIfAbsent(method, new TreeSet<>());
            }
            found = CALL.matcher(line);
            if (found.matches() && method != null) note(type, method, found.group(1).replace("\"", ""));
        }
    }

    private void note(String type, String method, String called) {
        String whole = called.contains(".") ? called : type + "." + called;
        if (whole.startsWith("LongStrike")) calls.get(method).add(whole);
    }

    /** A call of a method that is open already is recursion, and isn't followed. */
    private void follow(String method, LinkedHashSet<String> open) {
        if (!open.add(method)) return;
        if (open.size() > longest.size()) longest = List.copyOf(open);
        for (String next : calls.getOrDefault(method, Set.of())) {
            if (!open.contains(next)) follow(next, open);
        }
        open.remove(method);
    }
}
