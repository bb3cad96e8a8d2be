import java.io.IOException;
import java.nio.file.Files;
import java.nio.file.Path;
import java.util.ArrayList;
import java.util.List;
import java.util.Map;
import java.util.TreeMap;

/** The sentences of the document: of the terms under 0, and of each promise under its number. */
final class Document {
    private static final int LONGEST_HEADING = 4;

    private final Map<Integer, List<String>> sentences = new TreeMap<>();

    private Document() {
    }

    static Document read(Path file) throws IOException {
        Document d = new Document();
        String part = "";
        for (String block : Files.readString(file).split("\n\\s*\n")) {
            String text = block.strip().replaceAll("[ \t]*\n(?!- )[ \t]*", " ");
            if (text.startsWith("## ")) {
                part = text.substring(3);
            } else if (part.equals("Terms") && !text.startsWith("Ahead of") || part.equals("What it is")) {
                d.add(0, text);
            } else if (part.startsWith("Promise ")) {
                d.addPromise(Integer.parseInt(part.substring(8, part.indexOf(':'))), text);
            }
        }
        return d;
    }

    private void add(int promise, String text) {
        for (String sentence : text.split("(?<=\\.) ")) {
            if (sentence.split(" ").length > LONGEST_HEADING) {
                sentences.computeIfAbsent(promise, k -> new ArrayList<>()).add(sentence);
            }
        }
    }

    private void addPromise(int promise, String text) {
        List<String> found = sentences.computeIfAbsent(promise, k -> new ArrayList<>());
        if (text.startsWith("- ")) {
            for (String line : text.split("\n")) {
                found.add(line.substring(2));
            }
        } else if (text.startsWith("`")) {
            String told = text.substring(text.indexOf("`: ") + 3);
            for (String sentence : told.split("(?<=\\.) ")) {
                found.add(sentence);
            }
        } else {
            found.add(text);
        }
    }

    boolean has(int promise, String sentence) {
        return sentences.getOrDefault(promise, List.of()).contains(sentence);
    }

    /** All but what the class is for and parameters that name no numbers. */
    Map<Integer, List<String>> due() {
        Map<Integer, List<String>> found = new TreeMap<>();
        for (Map.Entry<Integer, List<String>> part : sentences.entrySet()) {
            List<String> kept = new ArrayList<>();
            for (String s : part.getValue()) {
                boolean isPlainParameter = s.startsWith("`") && !s.matches(".*([0-9]|any one).*");
                if (!isPlainParameter && !s.startsWith("A sorter of letters")) {
                    kept.add(s);
                }
            }
            found.put(part.getKey(), kept);
        }
        return found;
    }
}
