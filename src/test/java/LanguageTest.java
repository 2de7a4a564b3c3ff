import java.io.IOException;
import java.nio.file.Files;
import java.nio.file.Path;
import java.util.Set;
import java.util.TreeSet;
import java.util.regex.Matcher;
import java.util.regex.Pattern;

/** What LANGUAGE.md rules out of the program and what can be seen from its words alone. */
public final class LanguageTest {
    private static final String[] RULED_OUT = {
        "throw", "throws", "try", "catch", "finally", "synchronized", "assert", "volatile", "native",
        "equals", "hashCode", "toString", "System.out", "System.exit", "Thread", "Random", "Exception",
        "Object", "HashMap", "Map", "Set", "Stream", "Optional", "var", "->", "::", "new Integer", "protected",
    };
    private static final int LONGEST_METHOD = 60;

    public static void main(String[] args) throws IOException {
        String source = Files.readString(Path.of("src/main/java/LockedChain.java"));
        String code = source.replaceAll("(?s)/\\*.*?\\*/", "").replaceAll("//[^\n]*", "");
        for (String word : RULED_OUT) {
            boolean isWord = Character.isLetter(word.charAt(0));
            String pattern = isWord ? "\\b" + Pattern.quote(word) + "\\b" : Pattern.quote(word);
            Due.is("uses of " + word, Pattern.compile(pattern).matcher(code).find() ? 1 : 0, 0);
        }
        imports(code);
        face(code);
        methodLengths(code);
        Due.finish("LanguageTest");
    }

    private static void imports(String code) {
        Matcher m = Pattern.compile("(?m)^import (.*);$").matcher(code);
        while (m.find()) {
            boolean allowed = Set.of("java.util.Arrays", "java.util.ArrayList", "java.util.List").contains(m.group(1));
            Due.is("import of " + m.group(1), allowed ? 1 : 0, 1);
        }
    }

    /** No method but a public one of the outer class bears the name of a public one. */
    private static void face(String code) {
        Set<String> face = new TreeSet<>();
        Matcher m = Pattern.compile("(?m)^    public int (\\w+)\\(").matcher(code);
        while (m.find()) {
            face.add(m.group(1));
        }
        Due.is("public methods", face.size(), 14);
        Matcher other = Pattern.compile("(?m)^ +(?:private )?(?:static )?[\\w\\[\\]]+ (\\w+)\\([^;]*\\{$").matcher(code);
        while (other.find()) {
            Due.is("a method named " + other.group(1), face.contains(other.group(1)) ? 1 : 0, 0);
        }
        Matcher member = Pattern.compile("(?m)^    (?!private |public |\\}|@)\\S.*$").matcher(code);
        while (member.find()) {
            Due.is("a member seen from outside: " + member.group(), 1, 0);
        }
    }

    private static void methodLengths(String code) {
        Matcher m = Pattern.compile("(?ms)^( +)[^\n;=]*\\([^\n;]*\\) \\{\n.*?^\\1\\}$").matcher(code);
        int methods = 0;
        while (m.find()) {
            methods++;
            int lines = m.group().split("\n").length;
            Due.is("length of " + m.group().split("\n")[0].trim(), Math.max(lines, LONGEST_METHOD), LONGEST_METHOD);
        }
        Due.is("methods were found", methods > 60 ? 1 : 0, 1);
    }
}
