import java.io.IOException;
import java.nio.file.Files;
import java.nio.file.Path;
import java.util.ArrayList;
import java.util.BitSet;
import java.util.LinkedHashMap;
import java.util.List;
import java.util.Map;

/** The document's words, part by part, and which of them a case has spoken of. */
final class Document {
    private final Map<String, String> parts = new LinkedHashMap<>();
    private final Map<String, BitSet> spokenOf = new LinkedHashMap<>();

    Document(Path path) throws IOException {
        String part = "";
        for (String line : Files.readAllLines(path)) {
            if (line.startsWith("## ")) {
                part = line.substring(3).replaceAll(":.*", "");
            } else if (line.startsWith("==== ")) {
                part = "Terms " + line.charAt(5);
                add(part, line.substring(7));
            } else if (isSpokenOf(part, line)) {
                add(part, line);
            }
        }
    }

    /** The summary and the face promise nothing of their own; RulesTest looks at the face. */
    private static boolean isSpokenOf(String part, String line) {
        boolean isFrame = line.isBlank() || line.startsWith("```") || line.startsWith("Ahead of the calls");
        boolean isPromised = part.startsWith("Promise") || part.startsWith("Terms");
        return !isFrame && (isPromised || line.startsWith("An object is used"));
    }

    private void add(String part, String line) {
        String words = line.replaceAll("^`[^`]*`:", "").trim();
        parts.merge(part, words, (before, more) -> before + " " + more);
        spokenOf.putIfAbsent(part, new BitSet());
    }

    /** Marks the words as spoken of; tells what is wrong, null if they stand in that part, and once. */
    String speakOf(String part, String words) {
        String all = parts.getOrDefault(part, "");
        int at = all.indexOf(words);
        if (at < 0 || all.indexOf(words, at + 1) >= 0) {
            return part + (at < 0 ? " does not say: " : " says more than once: ") + words;
        }
        spokenOf.get(part).set(at, at + words.length());
        return null;
    }

    /** Stretches of words that no case has spoken of. */
    List<String> unspoken() {
        List<String> found = new ArrayList<>();
        for (Map.Entry<String, String> part : parts.entrySet()) {
            String all = part.getValue();
            BitSet done = spokenOf.get(part.getKey());
            for (int from = done.nextClearBit(0); from < all.length(); ) {
                int to = done.nextSetBit(from);
                to = to < 0 ? all.length() : to;
                String words = all.substring(from, to).trim();
                if (words.matches(".*[A-Za-z0-9].*")) {
                    found.add(part.getKey() + ": " + words);
                }
                from = done.nextClearBit(to);
            }
        }
        return found;
    }
}
