import java.io.IOException;
import java.nio.file.Files;
import java.nio.file.Path;
import java.util.ArrayList;
import java.util.LinkedHashMap;
import java.util.List;
import java.util.Map;

/** The document's sections, and which of their words tests have quoted. */
final class Document {
    /** Marks between the document's parts, which say nothing themselves. */
    private static final String MARKS = "(?m)^```.*$|==== \\d\\.";
    private static final String SIGNATURE = "(?m)^`[^`]*`: ";

    private final Map<String, String> sections = new LinkedHashMap<>();
    private final Map<String, boolean[]> quoted = new LinkedHashMap<>();

    Document(Path file) throws IOException {
        if (!Files.isReadable(file)) {
            return;
        }
        for (String section : Files.readString(file).split("(?m)^## ")) {
            int lineEnd = section.indexOf('\n');
            if (lineEnd > 0) {
                String name = section.substring(0, lineEnd).split(":")[0];
                String words = onOneLine(section.substring(lineEnd).replaceAll(MARKS, "").replaceAll(SIGNATURE, ""));
                sections.put(name, words);
                quoted.put(name, new boolean[words.length()]);
            }
        }
    }

    boolean isAtHand() {
        return !sections.isEmpty();
    }

    /** Where the words stand in the document; NONE if they don't stand just once in that section. */
    int quote(String where, String words) {
        int before = 0;
        for (Map.Entry<String, String> section : sections.entrySet()) {
            if (section.getKey().equals(where)) {
                int from = placeOf(words, section.getValue());
                for (int i = 0; from >= 0 && i < words.length(); i++) {
                    quoted.get(where)[from + i] = true;
                }
                return from < 0 ? CouponSale.NONE : before + from;
            }
            before += section.getValue().length();
        }
        return CouponSale.NONE;
    }

    private static int placeOf(String words, String text) {
        int from = text.indexOf(words);
        return from == text.lastIndexOf(words) ? from : CouponSale.NONE;
    }

    /** The words of "Terms" and of the promises that nobody quoted. */
    List<String> unquoted() {
        List<String> found = new ArrayList<>();
        sections.forEach((name, words) -> {
            if (name.equals("Terms") || name.startsWith("Promise ")) {
                String rest = onOneLine(withoutQuoted(words, quoted.get(name)));
                if (!rest.isEmpty()) {
                    found.add(name + ": " + rest);
                }
            }
        });
        return found;
    }

    private static String withoutQuoted(String words, boolean[] marks) {
        StringBuilder rest = new StringBuilder();
        for (int i = 0; i < marks.length; i++) {
            rest.append(marks[i] ? ' ' : words.charAt(i));
        }
        return rest.toString();
    }

    private static String onOneLine(String text) {
        return text.replaceAll("\\s+", " ").strip();
    }
}
