import java.io.IOException;
import java.nio.file.Files;
import java.nio.file.Path;
import java.util.ArrayList;
import java.util.List;
import java.util.Map;
import java.util.TreeMap;
import java.util.stream.Collectors;
import java.util.stream.Stream;

/**
 * The document's sentences, each with cases of its own, from src/test/sentences: "== 3: words" quotes words of
 * promise 3 (T: of the terms), "- name" begins a case on a new object, and what follows is its Script.
 * Words of the document that no sentence there quotes are told as missing.
 */
public final class SentenceTest {
    private static final Due due = new Due("SentenceTest");
    private static final String TERMS = "T";
    private static final int PROMISES = 42;

    /** The document's parts by name, and which of their letters have been quoted. */
    private static final Map<String, String> parts = new TreeMap<>();
    private static final Map<String, boolean[]> quoted = new TreeMap<>();

    public static void main(String[] args) throws IOException {
        Path document = Path.of(System.getProperty("eyerota.document", "../shared/DOC.md"));
        if (Files.exists(document)) {
            readDocument(Files.readString(document));
        } else {
            System.out.println("SentenceTest: there is no " + document + ", so quotes are not looked up");
        }
        Path folder = Path.of(System.getProperty("eyerota.sentences", "src/test/sentences"));
        try (Stream<Path> files = Files.list(folder)) {
            for (Path file : files.sorted().collect(Collectors.toList())) {
                runFile(file);
            }
        }
        lookForMissing();
        due.close();
    }

    private static String plain(String s) {
        return s.replaceAll("(?m)^```.*$|^======== [12]", " ").replaceAll("\\s+", " ").trim();
    }

    private static String between(String s, String from, String to) {
        int start = s.indexOf(from);
        int stop = s.indexOf(to, start + from.length());
        if (start < 0 || stop < 0) {
            throw new IllegalStateException("the document has no part from " + from + " to " + to);
        }
        return s.substring(start + from.length(), stop);
    }

    private static void readDocument(String document) {
        String head = between(document, "An object is used", "## The public face");
        addPart(TERMS, "An object is used" + head + between(document, "## Terms", "Ahead of the calls `feed`"));
        for (int n = 1; n <= PROMISES; n++) {
            String next = n < PROMISES ? "## Promise " + (n + 1) + ":" : "## Not promised";
            String body = between(document, "## Promise " + n + ":", next);
            // ahead of the first "`: " stands only the call as the face has it
            addPart("" + n, body.substring(body.indexOf("`: ") + 3));
        }
    }

    private static void addPart(String name, String text) {
        parts.put(name, plain(text));
        quoted.put(name, new boolean[parts.get(name).length()]);
    }

    private static void runFile(Path file) throws IOException {
        String part = "";
        String name = "";
        int cases = 1;
        StringBuilder script = new StringBuilder();
        List<String> lines = new ArrayList<>(Files.readAllLines(file));
        lines.add("- the end");
        for (String line : lines) {
            boolean isSentence = line.startsWith("== ");
            if (isSentence || line.startsWith("- ")) {
                if (!script.toString().isBlank()) {
                    Script.run(due, part + ", " + name, script.toString());
                    cases++;
                }
                script.setLength(0);
            }
            if (isSentence) {
                due.is("the sentence ahead of \"" + line + "\" has a case", cases > 0 ? 1 : 0, 1);
                cases = 0;
                name = line;
                part = line.substring(3, line.indexOf(':'));
                quote(file, part, plain(line.substring(line.indexOf(':') + 1)));
            } else if (line.startsWith("- ")) {
                name = line.substring(2);
            } else if (!line.startsWith("#")) {
                script.append(line).append('\n');
            }
        }
    }

    private static void quote(Path file, String part, String words) {
        if (parts.isEmpty()) {
            return;
        }
        String text = parts.getOrDefault(part, "");
        int at = text.indexOf(words);
        due.is(file.getFileName() + ": the document has, at " + part + ", \"" + words + "\"", at >= 0 ? 1 : 0, 1);
        for (; at >= 0; at = text.indexOf(words, at + 1)) {
            for (int i = at; i < at + words.length(); i++) {
                quoted.get(part)[i] = true;
            }
        }
    }

    private static void lookForMissing() {
        for (Map.Entry<String, String> part : parts.entrySet()) {
            StringBuilder rest = new StringBuilder();
            for (int i = 0; i < part.getValue().length(); i++) {
                rest.append(quoted.get(part.getKey())[i] ? ' ' : part.getValue().charAt(i));
            }
            String missing = rest.toString().replaceAll("\\s+", " ");
            boolean isWhole = !missing.matches("(?s).*\\w.*");
            due.is("no case quotes of " + part.getKey() + ": " + missing, isWhole ? 1 : 0, 1);
        }
    }
}
