import java.io.IOException;
import java.io.UncheckedIOException;
import java.nio.file.Files;
import java.nio.file.Path;
import java.util.ArrayList;
import java.util.LinkedHashMap;
import java.util.List;
import java.util.Map;
import java.util.regex.Matcher;
import java.util.regex.Pattern;

/** The sentences of DOC.md by section; the paragraphs of "Description" are sections of their own. */
final class Document {
    private static final Pattern PARAGRAPH_NAME = Pattern.compile("([A-Z][a-z]+(?: doubt)?(?:, too)?)\\. (.*)");

    private Document() {
    }

    static String text() {
        try {
            return Files.readString(Path.of("../shared/DOC.md"));
        } catch (IOException e) {
            throw new UncheckedIOException(e);
        }
    }

    static Map<String, List<String>> sections() {
        Map<String, List<String>> sections = new LinkedHashMap<>();
        for (String part : text().split("(?m)^## ")) {
            int end = part.indexOf('\n');
            String title = part.substring(0, end).replaceFirst("^(Promise \\d+):.*", "$1");
            for (String block : part.substring(end).replaceAll("(?s)```.*?```", "").strip().split("\n\\s*\n")) {
                addBlock(sections, title, block.strip());
            }
        }
        return sections;
    }

    private static void addBlock(Map<String, List<String>> sections, String title, String block) {
        boolean isSignature = block.startsWith("`");
        if (block.isEmpty() || isSignature) {
            return;
        }
        String line = block.replaceAll("\\s*\n(?!- )", " ");
        Matcher named = PARAGRAPH_NAME.matcher(line);
        boolean isNamed = title.equals("Description") && named.matches();
        String section = isNamed ? named.group(1) : title;
        List<String> sentences = sections.computeIfAbsent(section, each -> new ArrayList<>());
        sentences.addAll(List.of((isNamed ? named.group(2) : line).split("\n|(?<=\\.)\\s+(?=[A-Z])")));
    }
}
