import java.nio.file.Files;
import java.nio.file.Path;
import java.util.regex.Matcher;
import java.util.regex.Pattern;

/** What of ../shared/LANGUAGE.md can be seen from the source's words. */
public final class LanguageTest {
    private static final String[] FORBIDDEN = {
        "throw", "throws", "try", "catch", "finally", "synchronized", "assert", "package", "native", "transient", "volatile",
        "record", "yield", "var", "instanceof", "Random", "System\\.(?!arraycopy)", "Thread", "Object", "Exact", "Exception",
        "toString", "hashCode", "getClass", "protected", "float", "double"};

    public static void main(String[] args) throws Exception {
        String source = Files.readString(Path.of("src/main/java/StalemateDinner.java"));
        String code = source.replaceAll("(?s)/\\*.*?\\*/", "").replaceAll("//[^\n]*", "")
                .replaceAll("\"[^\"\n]*\"", "\"\"").replaceAll("'[^'\n]'", "' '");
        for (String word : FORBIDDEN) {
            Check.due("word " + word, found(code, "\\b" + word + (word.endsWith(")") ? "" : "\\b")), 0);
        }
        Check.due("arrows and references", found(code, "->|::"), 0);
        Check.due("texts joined by +", found(code, "\"\"\\s*\\+|\\+\\s*\"\""), 0);
        Check.due("annotations", found(code, "@"), 0);
        Check.due("imports beside Arrays", found(code, "import (?!java\\.util\\.Arrays;)"), 0);
        Check.due("static blocks", found(code, "static\\s*\\{"), 0);
        Check.due("signs above 126", source.chars().filter(c -> c > 126).count(), 0);
        Check.due("at most twelve classes", found(code, "\\bclass\\b") <= 12 ? 1 : 0, 1);
        methodsAreShort(code);
        Check.end();
    }

    private static long found(String code, String pattern) {
        return Pattern.compile(pattern).matcher(code).results().count();
    }

    private static void methodsAreShort(String code) {
        Matcher m = Pattern.compile("(?m)^( +)[a-z][^=;\n]*\\)( \\{)$").matcher(code);
        int methods = 0;
        while (m.find()) {
            int end = code.indexOf("\n" + m.group(1) + "}", m.end());
            long lines = code.substring(m.start(), end).lines().count();
            Check.due("short: " + m.group().trim() + " has " + lines + " lines", lines <= 60 ? 1 : 0, 1);
            Check.due("few parameters: " + m.group().trim(), m.group().chars().filter(c -> c == ',').count() < 7 ? 1 : 0, 1);
            methods++;
        }
        Check.due("methods were found", methods > 60 ? 1 : 0, 1);
    }
}
