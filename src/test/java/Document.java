import java.nio.file.Files;
import java.nio.file.Path;
import java.util.ArrayList;
import java.util.BitSet;
import java.util.List;
import java.util.Set;
import java.util.TreeSet;
import java.util.regex.Matcher;
import java.util.regex.Pattern;

/** The document's terms and promises, so that what tests quote is held against them and nothing is left out. */
final class Document {
    static final int PROMISES = 37;
    private static final Pattern REFUSAL = Pattern.compile("\\b(BAD|NOT|FULL|NULL|INDEX|CAST|STORE|SIZE)\\b");

    /** Part 0 holds the terms, part n promise n. */
    private final String[] parts = new String[PROMISES + 1];
    private final BitSet[] quoted = new BitSet[PROMISES + 1];

    private Document(String text) {
        String plain = text.replaceAll("```\\w*", " ").replaceAll("## Terms", " ").replaceAll("\\s+", " ");
        String terms = between(plain, "======== 1 ", " ## The public face") + " "
                + between(plain, "public long digest(); }", "Ahead of the calls");
        parts[0] = terms.replaceAll("======== [234] ", "");
        for (int n = 1; n <= PROMISES; n++) {
            String end = n < PROMISES ? "## Promise " + (n + 1) + ":" : "## Not promised";
            parts[n] = between(plain, "## Promise " + n + ":", end).replaceFirst("^[^`]*`[^`]*`: ", "");
        }
        for (int n = 0; n <= PROMISES; n++) {
            quoted[n] = new BitSet();
        }
    }

    /** The document beside the checkout; null if it is not at hand. */
    static Document atHand() {
        String shared = System.getenv("SHARED");
        Path path = Path.of(shared == null ? "../shared" : shared, "DOC.md");
        try {
            return Files.isReadable(path) ? new Document(Files.readString(path)) : null;
        } catch (java.io.IOException e) {
            return null;
        }
    }

    private static String between(String text, String begin, String end) {
        int from = text.indexOf(begin);
        int to = text.indexOf(end, Math.max(from, 0));
        return from < 0 || to < 0 ? "" : text.substring(from + begin.length(), to).trim();
    }

    /** Whether the words stand in a promise, or in the terms; they are marked as quoted. */
    boolean quote(int promise, String words) {
        return mark(promise, words) || mark(0, words);
    }

    private boolean mark(int part, String words) {
        int from = parts[part].indexOf(words);
        if (from >= 0) {
            quoted[part].set(from, from + words.length());
        }
        return from >= 0;
    }

    /** What no test has quoted, with the number of its promise (0: the terms). */
    List<String> unquoted() {
        List<String> left = new ArrayList<>();
        for (int n = 0; n <= PROMISES; n++) {
            for (int from = 0; from < parts[n].length(); from = quoted[n].nextSetBit(from)) {
                from = quoted[n].nextClearBit(from);
                int next = quoted[n].nextSetBit(from);
                int to = next < 0 ? parts[n].length() : next;
                String words = from < to ? parts[n].substring(from, to) : "";
                if (words.matches(".*\\w.*") && !words.trim().equals("and")) {
                    left.add(n + ": " + words.trim());
                }
                if (next < 0) {
                    break;
                }
            }
        }
        return left;
    }

    /** The refusals that a promise tells. */
    Set<String> refusals(int promise) {
        Set<String> all = new TreeSet<>();
        Matcher m = REFUSAL.matcher(parts[promise]);
        while (m.find()) {
            all.add(m.group());
        }
        return all;
    }

    boolean isWhole() {
        for (String part : parts) {
            if (part.isEmpty()) {
                return false;
            }
        }
        return true;
    }
}
