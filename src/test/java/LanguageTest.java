import java.lang.reflect.Field;
import java.lang.reflect.Member;
import java.lang.reflect.Method;
import java.lang.reflect.Modifier;
import java.io.IOException;
import java.nio.file.Files;
import java.nio.file.Path;
import java.util.ArrayList;
import java.util.HashSet;
import java.util.List;
import java.util.Set;
import java.util.regex.Matcher;
import java.util.regex.Pattern;

/** The face of the document, what LANGUAGE.md forbids (as far as a look tells), and that calls make no objects. */
public final class LanguageTest {
    private static final Checks T = new Checks("LanguageTest");
    private static final String[] FACE = {"days(int)", "village()", "road(int,int,int)", "pit(int,int,int,int)",
        "shop(int,int)", "household(int,int,int,int,int)", "of(int,int)", "pitOf(int,int)", "shopOf(int,int)",
        "set(int,int)", "gift(boolean,int)", "ship(int,int)", "feed(long,int)", "read(int)", "line(int,int,int)",
        "rule(int)", "why(int,int)", "news(int,int)", "hears(int,int)", "press(boolean)", "paper(int)", "evict(int)",
        "draws(int)", "least(int)", "last(int)", "post(boolean,int)", "watch(int)", "row(int,int)",
        "alterRow(int,int,int)", "dropRow()", "judge()", "clause(int)", "worth(int,int,int)", "ballot(int,int)",
        "offer()", "sheet(int,int,int)", "put(int,int,int)", "item(int,int,int)", "comes(int,int)",
        "shelf(int,int,int)", "taken(int,int)", "deal(int,int,int)", "trace(int)", "many(int)", "keep()", "again()"};

    public static void main(String[] args) throws Exception {
        face();
        nestedClasses();
        source();
        methodLengths();
        noObjects();
        T.end();
    }

    private static String signature(Method m) {
        StringBuilder told = new StringBuilder(m.getName()).append('(');
        for (Class<?> type : m.getParameterTypes()) {
            if (told.charAt(told.length() - 1) != '(') told.append(',');
            told.append(type.getSimpleName());
        }
        return told.append(')').toString();
    }

    private static void face() {
        T.holds("public and final", (LongStrike.class.getModifiers() & (Modifier.PUBLIC | Modifier.FINAL))
            == (Modifier.PUBLIC | Modifier.FINAL));
        Set<String> due = new HashSet<>(List.of(FACE));
        T.due("46 methods", due.size(), 46);
        Set<String> names = new HashSet<>();
        for (Method m : LongStrike.class.getDeclaredMethods()) {
            if (Modifier.isPrivate(m.getModifiers()) || m.isSynthetic()) continue;
            T.holds(signature(m) + " is of the face", due.remove(signature(m)) && m.getReturnType() == int.class
                && Modifier.isPublic(m.getModifiers()) && !Modifier.isStatic(m.getModifiers()));
            names.add(m.getName());
        }
        T.holds("all are there, but " + due, due.isEmpty());
        Set<String> constants = new HashSet<>(List.of("BAD", "FULL", "NONE", "STATE"));
        for (Field f : LongStrike.class.getDeclaredFields()) {
            if (!Modifier.isPrivate(f.getModifiers())) T.holds(f.getName(), constants.remove(f.getName()));
        }
        T.holds("all constants are there", constants.isEmpty());
        T.due("BAD", LongStrike.BAD, -1);
        T.due("FULL", LongStrike.FULL, -2);
        T.due("NONE", LongStrike.NONE, -3);
        T.due("STATE", LongStrike.STATE, -4);
        for (Method m : LongStrike.class.getDeclaredMethods()) {
            if (Modifier.isPrivate(m.getModifiers())) T.holds(m.getName() + " is no name of the face", !names.contains(m.getName()));
        }
    }

    private static int fieldsOf(Class<?> type) {
        int fields = 0;
        for (Field f : type.getDeclaredFields()) {
            if (Modifier.isStatic(f.getModifiers())) T.holds(type + "." + f.getName() + " is final", Modifier.isFinal(f.getModifiers()));
            else fields++;
        }
        return fields;
    }

    private static void nestedClasses() {
        Class<?>[] inside = LongStrike.class.getDeclaredClasses();
        T.holds("some twelve classes", inside.length + 1 <= 12);
        T.holds("some twenty fields", fieldsOf(LongStrike.class) <= 20);
        for (Class<?> type : inside) {
            T.holds(type + " is static", Modifier.isStatic(type.getModifiers()));
            T.holds(type + " is not public", !Modifier.isPublic(type.getModifiers()));
            T.holds(type + ": some twenty fields", fieldsOf(type) <= 20);
            List<Member> members = new ArrayList<>(List.of(type.getDeclaredMethods()));
            members.addAll(List.of(type.getDeclaredFields()));
            for (Member m : members) T.holds(m + " isn't public", !Modifier.isPublic(m.getModifiers()));
            for (Method m : type.getDeclaredMethods()) {
                T.holds(m + ": seven parameters", m.getParameterCount() <= 7);
                T.holds(m + " bears no name of the face", List.of(FACE).stream().noneMatch(f -> f.startsWith(m.getName() + "(")));
            }
        }
    }

    private static String withoutComments() throws IOException {
        String text = Files.readString(Path.of("src/main/java/LongStrike.java"));
        return text.replaceAll("(?s)/\\*.*?\\*/", "").replaceAll("//[^\n]*", "");
    }

    private static void source() throws IOException {
        String text = withoutComments();
        String[] forbidden = {"\\bthrow\\b", "\\btry\\b", "\\bcatch\\b", "\\bsynchronized\\b", "\\bassert\\b", "->", "::",
            "Exact\\b", "\\bfinalize\\b", "\\bThread\\b", "\\bRandom\\b", "nanoTime", "currentTimeMillis", "\\bpackage\\b",
            "\\bhashCode\\b", "\\btoString\\b", "\\bequals\\b", "\\bprotected\\b", "\\bnull\\b", "@", "\\bvar\\b"};
        for (String word : forbidden) T.holds(word + " doesn't stand in the source", !Pattern.compile(word).matcher(text).find());
        Matcher imports = Pattern.compile("import ([^;]+);").matcher(text);
        while (imports.find()) T.holds(imports.group(1) + " may be used", imports.group(1).equals("java.util.Arrays"));
        Matcher library = Pattern.compile("\\b(Math|Arrays|System|Integer|Long)\\.(\\w+)").matcher(text);
        while (library.find()) {
            T.holds(library.group() + " may be used", Set.of("min", "max", "fill", "arraycopy").contains(library.group(2)));
        }
        for (char c : text.toCharArray()) if (c > 126 || c < 32 && c != '\n') T.holds("a strange sign: " + (int) c, false);
        for (String line : Files.readAllLines(Path.of("src/main/java/LongStrike.java"))) {
            if (line.length() > 120) T.holds("too long: " + line, false);
        }
    }

    private static void methodLengths() throws IOException {
        String[] lines = Files.readString(Path.of("src/main/java/LongStrike.java")).split("\n");
        int from = -1;
        String indent = "";
        for (int i = 0; i < lines.length; i++) {
            Matcher head = Pattern.compile("^( {4}| {8})(?!private static final class)[\\w].*\\) \\{$").matcher(lines[i]);
            if (from < 0 && head.find()) {
                from = i;
                indent = head.group(1);
            } else if (from >= 0 && lines[i].equals(indent + "}")) {
                T.holds(lines[from].trim() + " is short", i - from + 1 <= 60);
                from = -1;
            }
        }
    }

    /** An object that has lived for some 300 calls. */
    private static LongStrike lived(int seed) throws Exception {
        Calls source = new Calls(seed);
        List<Calls.Call> calls = new ArrayList<>(source.beginning());
        while (calls.size() < 300) calls.addAll(source.more());
        LongStrike x = new LongStrike();
        for (Calls.Call call : calls) call.on(x);
        return x;
    }

    /** Reflection makes objects of its own, so the dearest calls are counted by themselves; an object has 512 calls. */
    private static void noObjects() throws Exception {
        com.sun.management.ThreadMXBean bean =
            (com.sun.management.ThreadMXBean) java.lang.management.ManagementFactory.getThreadMXBean();
        if (!bean.isThreadAllocatedMemorySupported()) return;
        long self = Thread.currentThread().getId();
        long made = 0;
        for (int round = 0; round < 3; round++) {
            LongStrike[] all = new LongStrike[10];
            for (int i = 0; i < all.length; i++) all[i] = lived(7 + i);
            long before = bean.getThreadAllocatedBytes(self);
            for (LongStrike x : all) {
                for (int i = 0; i < 5; i++) dearCalls(x);
            }
            made = bean.getThreadAllocatedBytes(self) - before;
        }
        T.holds("calls make no objects (" + made + " bytes)", made < 1000);
    }

    private static void dearCalls(LongStrike x) {
        for (int what = 0; what < 4; what++) x.last(what);
        x.keep();
        x.days(1);
        x.feed(0x6574636f76L, 5);
        x.feed(0x3720_7465_6b63_6974L, 8);
        x.read(0);
        x.feed(0x3720_7465_6b63_6974L, 8);
        x.feed(';', 1);
        x.read(0);
        x.again();
        x.offer();
        x.ballot(0, 0);
        x.watch(0);
        x.judge();
        x.draws(0);
        x.least(9);
        x.sheet(0, 3, 40);
        x.put(0, 1, 1);
        x.shelf(0, 2, 0);
        x.deal(0, 2, 5);
        x.pitOf(0, 4);
    }
}
