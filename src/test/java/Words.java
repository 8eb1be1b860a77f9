import java.io.IOException;
import java.nio.file.Files;
import java.nio.file.Path;
import java.util.ArrayList;
import java.util.LinkedHashMap;
import java.util.List;
import java.util.Map;
import java.util.regex.Matcher;
import java.util.regex.Pattern;

/** The document's promises and terms, word by word: which of their words a test has named. */
final class Words {
    private static final Path DOCUMENT = Path.of("../shared/DOC.md");

    private final Map<String, String> sections = new LinkedHashMap<>();
    private final Map<String, boolean[]> named = new LinkedHashMap<>();

    Words() throws IOException {
        Matcher section = Pattern.compile("(?ms)^## ([^\n]*)\n(.*?)(?=^## |\\z)").matcher(Files.readString(DOCUMENT));
        while (section.find()) {
            String title = section.group(1).replaceAll("(Promise \\d+):.*", "$1");
            sections.put(title, withoutFrame(section.group(2)));
            named.put(title, new boolean[sections.get(title).length()]);
        }
    }

    /** What is no sentence about a call: how the call is written, where the interface says what. */
    private static String withoutFrame(String text) {
        return text.replaceAll("(?m)^`[^`]*`: ", "").replaceAll("(?m)^Ahead of the calls .*$", "")
            .replaceAll("```(text)?", "").replaceAll("====( \\d)?", "");
    }

    /** Whether these words stand in a section; they are named then. */
    boolean name(String section, String words) {
        String text = sections.getOrDefault(section, "");
        int from = text.indexOf(words);
        for (int at = from; at >= 0; at = text.indexOf(words, at + 1)) {
            for (int i = at; i < at + words.length(); i++) {
                named.get(section)[i] = true;
            }
        }
        return from >= 0;
    }

    /** The stretches of the terms and the promises in which a word stands that no test has named. */
    List<String> unnamed() {
        List<String> all = new ArrayList<>();
        for (String section : sections.keySet()) {
            if (section.equals("Terms") || section.startsWith("Promise ")) {
                addUnnamed(section, all);
            }
        }
        return all;
    }

    private void addUnnamed(String section, List<String> all) {
        StringBuilder stretch = new StringBuilder();
        String text = sections.get(section) + " ";
        boolean[] is = named.get(section);
        for (int i = 0; i < text.length(); i++) {
            if (i < is.length && !is[i]) {
                stretch.append(text.charAt(i));
            } else {
                if (stretch.toString().matches("(?s).*[A-Za-z0-9].*")) {
                    all.add(section + ": " + stretch.toString().strip());
                }
                stretch.setLength(0);
            }
        }
    }
}
