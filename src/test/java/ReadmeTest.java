import java.io.IOException;
import java.nio.file.Files;
import java.nio.file.Path;
import java.util.regex.Matcher;
import java.util.regex.Pattern;

/** README.md tells calls with their answers: they are made here, in its order and on one object. */
public final class ReadmeTest {
    private static final Due due = new Due("ReadmeTest");
    private static final Pattern FAMILY = Pattern.compile("String family = \"(.*)\";");
    private static final Pattern CALL = Pattern.compile("x\\.(\\w+)\\((.*?)\\);\\s*// (-?\\d+):.*");

    public static void main(String[] args) throws IOException {
        EyeRota x = new EyeRota();
        int calls = 0;
        for (String line : Files.readAllLines(Path.of(System.getProperty("eyerota.readme", "README.md")))) {
            Matcher family = FAMILY.matcher(line);
            if (family.matches()) {
                Due.type(x, family.group(1));
            }
            Matcher call = CALL.matcher(line);
            boolean isCall = call.matches();
            due.is("a call with its answer: " + line, line.startsWith("x.") && !isCall ? 1 : 0, 0);
            if (isCall) {
                calls++;
                due.is(line, Script.call(x, call.group(1), numbers(call.group(2))), Long.parseLong(call.group(3)));
            }
        }
        due.is("the page tells of calls", calls > 0 ? 1 : 0, 1);
        due.close();
    }

    private static int[] numbers(String list) {
        if (list.isBlank()) {
            return new int[0];
        }
        String[] words = list.split(",");
        int[] all = new int[words.length];
        for (int i = 0; i < words.length; i++) {
            all[i] = Integer.parseInt(words[i].trim());
        }
        return all;
    }
}
