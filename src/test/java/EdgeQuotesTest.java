import java.io.File;
import java.nio.file.Files;
import java.nio.file.Path;
import java.util.ArrayList;
import java.util.LinkedHashMap;
import java.util.List;
import java.util.Map;
import java.util.regex.Matcher;
import java.util.regex.Pattern;

/**
 * The tests of the document's edges quote the sentences that they test: every quotation stands in the document, at its
 * place, and every word of the terms and of the promises is quoted. So a sentence that changes, or a new one, is seen.
 */
public final class EdgeQuotesTest {
    private static final Pattern QUOTED = Pattern.compile("\\bof\\(\"([a-z0-9]+)\",\\s*\"([^\"]*)\"");

    public static void main(String[] args) throws Exception {
        Map<String, String> places = places(Files.readString(Path.of("../shared/DOC.md")));
        Check.due("places", places.size(), 41);
        Map<String, boolean[]> quoted = new LinkedHashMap<>();
        for (Map.Entry<String, String> place : places.entrySet()) {
            quoted.put(place.getKey(), new boolean[place.getValue().length()]);
        }
        for (String[] quotation : quotations()) {
            String text = places.getOrDefault(quotation[0], "");
            int at = text.indexOf(quotation[1]);
            Check.due("at " + quotation[0] + " the document says \"" + quotation[1] + "\"", at >= 0 ? 1 : 0, 1);
            for (; at >= 0; at = text.indexOf(quotation[1], at + 1)) {
                java.util.Arrays.fill(quoted.get(quotation[0]), at, at + quotation[1].length(), true);
            }
        }
        for (Map.Entry<String, String> place : places.entrySet()) {
            String rest = rest(place.getValue(), quoted.get(place.getKey()));
            Check.due("at " + place.getKey() + " these words are quoted by no test: \"" + rest + "\"", rest.isEmpty() ? 0 : 1, 0);
        }
        Check.end();
    }

    /** The document's places: "use", "terms", and the promises by their numbers. */
    private static Map<String, String> places(String doc) {
        Map<String, String> places = new LinkedHashMap<>();
        Matcher use = Pattern.compile("(?m)^(An object is used for at most .*?); what later calls answer is free\\.$").matcher(doc);
        if (use.find()) {
            places.put("use", use.group(1));
        }
        Matcher terms = Pattern.compile("(?s)## Terms\n(.*?)\nAhead of the calls ").matcher(doc);
        if (terms.find()) {
            places.put("terms", terms.group(1).replaceAll("={4,} \\d|```(text)?", " ").replaceAll("\\s+", " ").trim());
        }
        Matcher promise = Pattern.compile("(?s)## Promise (\\d+): .*?`[^`]*`: (.*?)\\s*(?=\n## )").matcher(doc);
        while (promise.find()) {
            places.put(promise.group(1), promise.group(2).replaceAll("\\s+", " "));
        }
        return places;
    }

    private static List<String[]> quotations() throws Exception {
        List<String[]> quotations = new ArrayList<>();
        for (File file : new File("src/test/java").listFiles()) {
            if (file.getName().matches("Edge.*Test\\.java")) {
                String source = Files.readString(file.toPath()).replaceAll("\"\\s*\\+ \"", "");
                Matcher m = QUOTED.matcher(source);
                while (m.find()) {
                    quotations.add(new String[] {m.group(1), m.group(2)});
                }
            }
        }
        Check.due("quotations were found", quotations.size() > 150 ? 1 : 0, 1);
        return quotations;
    }

    /** What of a text is not quoted, if there is a letter or digit in it. */
    private static String rest(String text, boolean[] quoted) {
        StringBuilder rest = new StringBuilder();
        for (int i = 0; i < text.length(); i++) {
            rest.append(quoted[i] ? '|' : text.charAt(i));
        }
        String words = rest.toString().replaceAll("[| ]*\\|[| ]*", " | ").trim();
        return words.matches("(?s).*[A-Za-z0-9].*") ? words : "";
    }
}
