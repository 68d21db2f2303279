import java.io.IOException;
import java.lang.reflect.Constructor;
import java.lang.reflect.Field;
import java.lang.reflect.Method;
import java.lang.reflect.Modifier;
import java.nio.file.Files;
import java.nio.file.Path;
import java.util.ArrayList;
import java.util.HashSet;
import java.util.List;
import java.util.Set;
import java.util.regex.Matcher;
import java.util.regex.Pattern;

/** What of the document's face and of LANGUAGE.md can be seen from the outside. */
public final class LanguageTest {
    private static final Check CHECK = new Check("LanguageTest");
    private static final Path MAIN = Path.of("src/main/java/AbsentRings.java");
    private static final Path DOC = Path.of("../shared/DOC.md");

    public static void main(String[] args) throws IOException {
        String source = Files.readString(MAIN);
        face(source);
        members();
        words(withoutComments(source));
        lengths(source);
        callDepth(withoutComments(source));
        CHECK.finish();
    }

    private static String withoutComments(String source) {
        return source.replaceAll("(?s)/\\*.*?\\*/", "").replaceAll("//[^\n]*", "")
                .replaceAll("\"[^\"\n]*\"", "\"\"");
    }

    private static String flat(String s) {
        return s.replaceAll("\\s+", " ").trim();
    }

    /** Each line of the document's face stands in the source to the letter, and nothing else is public. */
    private static void face(String source) throws IOException {
        String doc = Files.readString(DOC);
        int from = doc.indexOf("public final class AbsentRings {");
        String[] lines = doc.substring(from, doc.indexOf("\n}", from)).split("\n");
        String flat = flat(source);
        int members = 0;
        for (String line : lines) {
            String member = line.trim();
            if (member.endsWith(";")) {
                members++;
                String head = member.contains("(") ? member.substring(0, member.length() - 1) + " {" : member;
                CHECK.isTrue(member, flat.contains(head));
            }
        }
        int mine = AbsentRings.class.getConstructors().length + AbsentRings.class.getFields().length;
        for (Method method : AbsentRings.class.getDeclaredMethods()) {
            mine += Modifier.isPublic(method.getModifiers()) ? 1 : 0;
        }
        CHECK.same("public members", mine, members);
        CHECK.isTrue("final", Modifier.isFinal(AbsentRings.class.getModifiers()));
    }

    private static void members() {
        Set<String> names = new HashSet<>();
        List<Class<?>> classes = new ArrayList<>(List.of(AbsentRings.class.getDeclaredClasses()));
        for (Method method : AbsentRings.class.getDeclaredMethods()) {
            if (Modifier.isPublic(method.getModifiers())) {
                names.add(method.getName());
            }
        }
        for (Constructor<?> c : AbsentRings.class.getDeclaredConstructors()) {
            CHECK.isTrue("constructor", Modifier.isPublic(c.getModifiers()));
        }
        for (Class<?> c : classes) {
            CHECK.isTrue(c.getName() + " is static", Modifier.isStatic(c.getModifiers()));
            CHECK.isFalse(c.getName() + " is public", Modifier.isPublic(c.getModifiers()));
        }
        classes.add(AbsentRings.class);
        CHECK.isTrue("at most twelve classes", classes.size() <= 12);
        for (Class<?> c : classes) {
            members(c, names);
        }
    }

    private static void members(Class<?> c, Set<String> names) {
        int fields = 0;
        for (Field field : c.getDeclaredFields()) {
            boolean isStatic = Modifier.isStatic(field.getModifiers());
            fields += isStatic ? 0 : 1;
            CHECK.isTrue(c.getName() + "." + field.getName(), !isStatic || Modifier.isFinal(field.getModifiers()));
            CHECK.isTrue(field.getName() + " is hidden", c != AbsentRings.class || field.getName().equals("NONE")
                    || Modifier.isPrivate(field.getModifiers()));
        }
        CHECK.isTrue(c.getName() + " has at most twenty fields", fields <= 20);
        for (Method method : c.getDeclaredMethods()) {
            boolean isFace = c == AbsentRings.class && Modifier.isPublic(method.getModifiers());
            CHECK.isTrue(method.getName() + " is hidden", isFace || c != AbsentRings.class
                    || Modifier.isPrivate(method.getModifiers()));
            CHECK.isFalse(c.getName() + "." + method.getName() + " bears the name of a public one",
                    !isFace && names.contains(method.getName()));
            CHECK.isTrue(method.getName() + " takes at most seven", method.getParameterCount() <= 7);
        }
    }

    private static void words(String code) {
        String[] forbidden = {"->", "::", "try", "catch", "finally", "synchronized", "assert", "volatile",
            "Exact", "hashCode", "instanceof", "@", "System\\.(?!arraycopy)", "while \\(true\\)", "for \\(;;\\)",
            "String\\[\\]", "double", "float", "protected", "\\bstatic \\{"};
        for (String word : forbidden) {
            String pattern = word.matches("[a-z]+") ? "\\b" + word + "\\b" : word;
            CHECK.isFalse("the source has " + word, Pattern.compile(pattern).matcher(code).find());
        }
        Matcher imports = Pattern.compile("import ([^;]+);").matcher(code);
        while (imports.find()) {
            CHECK.isTrue(imports.group(1), imports.group(1).equals("java.util.NoSuchElementException"));
        }
        Matcher thrown = Pattern.compile("throw ([^;]*);").matcher(code);
        while (thrown.find()) {
            CHECK.isTrue(thrown.group(1), thrown.group(1).matches("new \\w+\\(\"\"\\)"));
        }
        Matcher strange = Pattern.compile("[^\\x00-\\x7f]").matcher(code);
        CHECK.isFalse("signs above 127", strange.find());
    }

    private static void lengths(String source) {
        int from = -1;
        String indent = "";
        String[] lines = source.split("\n");
        for (int i = 0; i < lines.length; i++) {
            CHECK.isTrue("line " + (i + 1) + " is not long", lines[i].length() <= 120);
            Matcher head = Pattern.compile("^( {4}| {8})[a-z].*\\) (throws .*)?\\{$").matcher(lines[i]);
            if (head.matches()) {
                from = i;
                indent = head.group(1);
            }
            if (from >= 0 && lines[i].equals(indent + "}")) {
                CHECK.isTrue("method at line " + (from + 1) + " is short", i - from < 60);
                from = -1;
            }
        }
    }

    /** The longest chain of calls by names, one that calls itself counted once. */
    private static void callDepth(String code) {
        List<String> names = new ArrayList<>();
        List<String> bodies = new ArrayList<>();
        Matcher head = Pattern.compile(
                "(?m)^( {4}| {8})(?:[a-z]+ )*?(?:\\w+(?:\\[\\])? )(\\w+)\\([^)]*\\)\\s*(?:throws [^{]*)?\\{$").matcher(code);
        while (head.find()) {
            int end = code.indexOf("\n" + head.group(1) + "}", head.end());
            names.add(head.group(2));
            bodies.add(code.substring(head.end(), end));
        }
        CHECK.isTrue("methods were found", names.size() > 120);
        for (int i = 0; i < names.size(); i++) {
            int depth = deepest(i, names, bodies, new HashSet<>());
            CHECK.isTrue(names.get(i) + " goes " + depth + " deep", depth <= 8);
        }
    }

    private static int deepest(int i, List<String> names, List<String> bodies, Set<String> open) {
        if (!open.add(names.get(i))) {
            return 0;
        }
        int most = 0;
        for (int j = 0; j < names.size(); j++) {
            if (Pattern.compile("(?<!new )\\b" + names.get(j) + "\\(").matcher(bodies.get(i)).find()) {
                most = Math.max(most, deepest(j, names, bodies, open));
            }
        }
        open.remove(names.get(i));
        return most + 1;
    }
}
