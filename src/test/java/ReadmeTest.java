import java.io.IOException;
import java.net.URL;
import java.net.URLClassLoader;
import java.nio.file.Files;
import java.nio.file.Path;
import java.util.ArrayList;
import java.util.Comparator;
import java.util.HashSet;
import java.util.List;
import java.util.Set;
import java.util.function.BiConsumer;
import java.util.regex.Matcher;
import java.util.regex.Pattern;
import java.util.stream.Stream;
import javax.tools.JavaCompiler;
import javax.tools.ToolProvider;

/** README.md's example, compiled as it stands there: each call must answer what is told behind it. */
public final class ReadmeTest {
    private static final Checks T = new Checks("ReadmeTest");
    private static final Pattern BLOCK = Pattern.compile("(?s)```java\n(.*?)```");
    private static final Pattern ANSWERED = Pattern.compile("(?:int (\\w+) = )?(\\w.*\\));\\s+// (-?\\d+)\\b.*");
    private static final Pattern MAKING = Pattern.compile("LongStrike x = new LongStrike\\(\\);");

    private ReadmeTest() {
    }

    public static void main(String[] args) throws Exception {
        List<String> blocks = new ArrayList<>();
        Matcher found = BLOCK.matcher(Files.readString(Path.of("README.md")));
        while (found.find()) blocks.add(found.group(1));
        T.due("blocks of Java in README.md", blocks.size(), 2);
        if (blocks.size() == 2) run(source(blocks.get(0), blocks.get(1)));
        T.end();
    }

    /** Each line of the example is run once, and its answer is told together with the one that README.md tells. */
    private static String source(String helper, String example) {
        StringBuilder body = new StringBuilder();
        Set<String> kinds = new HashSet<>();
        for (String line : example.split("\n")) {
            Matcher answered = ANSWERED.matcher(line);
            if (answered.matches()) {
                String name = answered.group(1) == null ? "a" + body.length() : answered.group(1);
                String call = answered.group(2);
                body.append("int ").append(name).append(" = ").append(call).append(";\n");
                body.append("told.accept(\"").append(call.replace("\"", "'")).append("\", new int[] {").append(name);
                body.append(", ").append(answered.group(3)).append("});\n");
                kinds.add(answered.group(3).startsWith("-") ? "refused" : "done");
            } else {
                T.holds("tells no answer: " + line, line.isBlank() || MAKING.matcher(line).matches());
                body.append(line).append('\n');
            }
        }
        T.due("some calls are refused, some aren't", kinds.size(), 2);
        return "public final class Example {\n" + helper
            + "public static void run(java.util.function.BiConsumer<String, int[]> told) {\n" + body + "}\n}\n";
    }

    private static void run(String source) throws Exception {
        Path folder = Files.createTempDirectory("readme");
        try {
            Path file = Files.writeString(folder.resolve("Example.java"), source);
            JavaCompiler compiler = ToolProvider.getSystemJavaCompiler();
            int code = compiler.run(null, System.out, System.out, "-cp", System.getProperty("java.class.path"), "-d",
                folder.toString(), file.toString());
            T.due("the example compiles", code, 0);
            if (code == 0) ask(folder);
        } finally {
            remove(folder);
        }
    }

    private static void ask(Path folder) throws Exception {
        BiConsumer<String, int[]> told = (call, answers) -> T.due(call, answers[0], answers[1]);
        try (URLClassLoader loader = new URLClassLoader(new URL[] {folder.toUri().toURL()})) {
            loader.loadClass("Example").getMethod("run", BiConsumer.class).invoke(null, told);
        }
    }

    private static void remove(Path folder) throws IOException {
        try (Stream<Path> all = Files.walk(folder)) {
            for (Path path : all.sorted(Comparator.reverseOrder()).toList()) Files.delete(path);
        }
    }
}
