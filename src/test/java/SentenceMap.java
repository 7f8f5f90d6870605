import java.io.IOException;
import java.nio.file.Files;
import java.nio.file.Path;
import java.util.ArrayList;
import java.util.List;
import java.util.TreeMap;
import java.util.regex.Matcher;
import java.util.regex.Pattern;
import java.util.stream.Stream;

/**
 * A tool, not a test: tells which words of DOC.md no test of the promises names, and which named words don't stand
 * there. java -cp OUT SentenceMap ../shared/DOC.md src/test/java
 */
public final class SentenceMap {
    private static final Pattern SENTENCE = Pattern.compile("T\\.sentence\\((\\d+),\\s*((?:\"(?:[^\"\\\\]|\\\\.)*\"\\s*\\+?\\s*)+)\\)");
    private static final Pattern PART = Pattern.compile("\"((?:[^\"\\\\]|\\\\.)*)\"");

    private SentenceMap() {
    }

    public static void main(String[] args) throws IOException {
        String doc = plain(Files.readString(Path.of(args[0])));
        boolean[] named = new boolean[doc.length()];
        TreeMap<Integer, Integer> tests = new TreeMap<>();
        for (Path file : sources(Path.of(args[1]))) {
            Matcher sentences = SENTENCE.matcher(Files.readString(file));
            while (sentences.find()) {
                tests.merge(Integer.parseInt(sentences.group(1)), 1, Integer::sum);
                mark(doc, named, plain(joined(sentences.group(2))), file);
            }
        }
        System.out.println("sentences by promises: " + tests);
        for (int promise = 1; promise <= 47; promise++) {
            if (!tests.containsKey(promise)) System.out.println("promise " + promise + " has none");
        }
        tellOthers(doc, named);
    }

    private static List<Path> sources(Path folder) throws IOException {
        try (Stream<Path> files = Files.list(folder)) {
            return files.filter(file -> file.getFileName().toString().matches("Promise\\d.*Test\\.java")).sorted().toList();
        }
    }

    private static String joined(String parts) {
        StringBuilder all = new StringBuilder();
        Matcher part = PART.matcher(parts);
        while (part.find()) all.append(part.group(1).replace("\\\"", "\""));
        return all.toString();
    }

    private static String plain(String text) {
        return text.replaceAll("\\s+", " ");
    }

    private static void mark(String doc, boolean[] named, String words, Path file) {
        int at = doc.indexOf(words);
        if (at < 0) System.out.println("doesn't stand in the document (" + file.getFileName() + "): " + words);
        for (; at >= 0; at = doc.indexOf(words, at + 1)) {
            for (int i = at; i < at + words.length(); i++) named[i] = true;
        }
    }

    private static void tellOthers(String doc, boolean[] named) {
        List<String> others = new ArrayList<>();
        int from = doc.indexOf("## Terms");
        for (int i = from; i < doc.length(); i++) {
            if (named[i]) {
                others.add(doc.substring(from, i));
                while (i < doc.length() && named[i]) i++;
                from = i;
            }
        }
        others.add(doc.substring(from));
        for (String other : others) if (other.matches(".*[a-z]{3}.*")) System.out.println("named by no test: " + other.trim());
    }
}
