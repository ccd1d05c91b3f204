import java.io.IOException;
import java.nio.charset.StandardCharsets;
import java.nio.file.Files;
import java.nio.file.Path;
import java.util.ArrayList;
import java.util.LinkedHashMap;
import java.util.List;
import java.util.Map;
import java.util.regex.Matcher;
import java.util.regex.Pattern;

/** The document by its places ("ERRORS", "Promise 7"), and which of its words a test has quoted. */
final class Doc {
    /** What tells of a boundary: a number, or the name of an error. */
    private static final Pattern BOUNDARY = Pattern.compile("\\b(\\d+|UNKNOWN|BAD|LATE|FULL|NONE|none|empty|one by one"
        + "|two|three|six|eight|nine|ninth|tenth|smallest|greatest|lowest|latest|wraps)\\b");
    private static final Pattern PARAGRAPH = Pattern.compile("([A-Z]{2}[A-Z ]*[A-Z])\\b.*");
    private static final Pattern HEADING = Pattern.compile("## (Promise \\d+|[^:]*).*");

    private final Map<String, String> places = new LinkedHashMap<>();
    private final Map<String, boolean[]> quoted = new LinkedHashMap<>();

    Doc(Path file) throws IOException {
        StringBuilder text = new StringBuilder();
        String place = "";
        boolean isNewParagraph = true;
        for (String line : Files.readAllLines(file, StandardCharsets.UTF_8)) {
            Matcher heading = HEADING.matcher(line);
            Matcher paragraph = PARAGRAPH.matcher(line);
            String next = heading.matches() ? heading.group(1)
                : line.startsWith("Examples:") ? "Examples"
                : isNewParagraph && paragraph.matches() ? paragraph.group(1) : null;
            if (next != null) {
                put(place, text);
                place = next;
                text.setLength(0);
            }
            text.append(heading.matches() ? "" : line).append(' ');
            isNewParagraph = line.isBlank();
        }
        put(place, text);
    }

    private void put(String place, StringBuilder text) {
        places.put(place, text.toString().replaceAll("\\s+", " ").trim());
        quoted.put(place, new boolean[places.get(place).length()]);
    }

    /** The words of a place, in one line; empty if there is no such place. */
    String text(String place) {
        return places.getOrDefault(place, "");
    }

    /** Whether these words stand there; they count as quoted from then on. */
    boolean quote(String place, String words) {
        String text = text(place);
        int from = text.indexOf(words);
        for (int at = from; at >= 0 && !words.isEmpty(); at = text.indexOf(words, at + 1)) {
            java.util.Arrays.fill(quoted.get(place), at, at + words.length(), true);
        }
        return from >= 0;
    }

    /** The boundaries that no quoted words hold, each with the words around it. The examples have a test of their own. */
    List<String> unquoted() {
        List<String> all = new ArrayList<>();
        for (String place : places.keySet()) {
            String text = places.get(place);
            Matcher boundary = BOUNDARY.matcher(text);
            while (boundary.find() && !place.equals("Examples")) {
                if (!quoted.get(place)[boundary.start()]) {
                    int from = Math.max(0, boundary.start() - 30);
                    int to = Math.min(text.length(), boundary.end() + 30);
                    all.add(place + ": .." + text.substring(from, to) + "..");
                }
            }
        }
        return all;
    }
}
