import java.io.IOException;
import java.nio.file.Files;
import java.nio.file.Path;
import java.util.ArrayList;
import java.util.List;
import java.util.regex.Matcher;
import java.util.regex.Pattern;

/** That no sentence of the document is without a test: each word of the terms and promises is named by some says(..). */
public final class PromisesTest {
    private static final Check CHECK = new Check("PromisesTest");
    private static final Path TESTS = Path.of("src/test/java");
    private static final String TEXT = "\"(?:[^\"\\\\]|\\\\.)*\"";
    private static final Pattern SAYS = Pattern.compile("\\.says\\((\\d+),\\s*((?:" + TEXT + "\\s*\\+?\\s*)+)\\)");

    public static void main(String[] args) throws IOException {
        List<List<String>> named = named();
        for (int promise = 0; promise <= Doc.PROMISES; promise++) {
            CHECK.isTrue("promise " + promise + " is named", !named.get(promise).isEmpty());
            String left = unnamed(wordsOf(promise), named.get(promise));
            CHECK.isTrue("of promise " + promise + " no test names: " + left, left.isEmpty());
        }
        CHECK.finish();
    }

    private static List<List<String>> named() throws IOException {
        List<List<String>> named = new ArrayList<>();
        for (int promise = 0; promise <= Doc.PROMISES; promise++) {
            named.add(new ArrayList<>());
        }
        try (var files = Files.newDirectoryStream(TESTS, "*Test.java")) {
            for (Path file : files) {
                Matcher says = SAYS.matcher(Files.readString(file));
                while (says.find()) {
                    StringBuilder sentence = new StringBuilder();
                    Matcher text = Pattern.compile(TEXT).matcher(says.group(2));
                    while (text.find()) {
                        sentence.append(text.group(), 1, text.group().length() - 1);
                    }
                    named.get(Integer.parseInt(says.group(1))).add(sentence.toString());
                }
            }
        }
        return named;
    }

    private static String wordsOf(int promise) {
        String part = Doc.part(promise);
        if (promise > 0) {
            return part.substring(part.indexOf("`: ") + 3);
        }
        return part.substring(part.indexOf("## Terms") + 8).replace("```text", "~").replaceAll("```|==== \\d\\.", "~");
    }

    private static String unnamed(String words, List<String> named) {
        StringBuilder left = new StringBuilder(words);
        for (String sentence : named) {
            for (int at = words.indexOf(sentence); at >= 0; at = words.indexOf(sentence, at + 1)) {
                for (int i = at; i < at + sentence.length(); i++) {
                    left.setCharAt(i, ' ');
                }
            }
        }
        return left.toString().replaceAll("[^A-Za-z0-9]+", " ").trim();
    }
}
