import java.io.IOException;
import java.nio.ByteBuffer;
import java.nio.charset.StandardCharsets;
import java.nio.file.Files;
import java.nio.file.Path;
import java.util.Arrays;
import java.util.regex.Matcher;
import java.util.regex.Pattern;

/** The examples of README.md: every call in them answers what is written beside it. */
public final class ReadmeTest {
    private static final Pattern NEW = Pattern.compile("BodyText x = new BodyText\\(\\);");
    private static final Pattern GIVE = Pattern.compile("give\\(x, \"(.*)\"\\);");
    private static final Pattern CALL = Pattern.compile("x\\.(\\w+)\\(([^)]*)\\); +// (-?\\d+|true|false)\\b.*");

    private static BodyText x = null;
    private static int calls = 0;

    public static void main(String[] args) throws IOException {
        String readme = Files.readString(Path.of("README.md"));
        boolean example = false;
        for (String line : readme.split("\n")) {
            if (line.startsWith("```")) {
                example = line.equals("```java");
            } else if (example) {
                run(line);
            }
        }
        Check.due("calls in the examples", 27, calls);
        Check.due("README.md has the method give of this test", true, readme.contains(ownGive()));
        Check.finish();
    }

    private static void run(String line) {
        Matcher give = GIVE.matcher(line);
        Matcher call = CALL.matcher(line);
        if (NEW.matcher(line).matches()) {
            x = new BodyText();
        } else if (give.matches()) {
            give(x, give.group(1).replace("\\u0007", "\u0007"));
        } else if (call.matches()) {
            calls++;
            Check.due("README.md, " + call.group(1) + "(" + call.group(2) + ")", number(call.group(3)),
                    answer(call.group(1), call.group(2).split(", ")));
        }
    }

    private static int answer(String name, String[] given) {
        return switch (name) {
            case "feed" -> x.feed(number(given[0]), number(given[1]), number(given[2]), number(given[3]), number(given[4]));
            case "end" -> x.end(number(given[0])) ? 1 : 0;
            case "read" -> x.read();
            case "faultAt" -> x.faultAt();
            case "size" -> x.size(number(given[0]));
            case "token" -> x.token(number(given[0]), number(given[1]) == 1);
            case "classAt" -> x.classAt(number(given[0]));
            case "member" -> x.member(number(given[0]));
            case "memberAt" -> x.memberAt(number(given[0]));
            case "line" -> x.line(number(given[0]));
            case "lineAt" -> x.lineAt(number(given[0]));
            case "instruction" -> x.instruction(number(given[0]));
            default -> throw new IllegalArgumentException("no call of the class: " + name);
        };
    }

    private static int number(String written) {
        return switch (written) {
            case "true" -> 1;
            case "false" -> 0;
            default -> Integer.decode(written);
        };
    }

    /** The method below as README.md should have it. */
    private static String ownGive() throws IOException {
        String source = Files.readString(Path.of("src/test/java/ReadmeTest.java"));
        int from = source.lastIndexOf("    static void give(");
        return source.substring(from, source.lastIndexOf("}")).stripTrailing().stripIndent();
    }

    static void give(BodyText x, String text) {
        byte[] bytes = text.getBytes(StandardCharsets.ISO_8859_1);
        ByteBuffer whole = ByteBuffer.wrap(Arrays.copyOf(bytes, (bytes.length + 19) / 20 * 20));
        while (whole.hasRemaining()) {
            x.feed(whole.getInt(), whole.getInt(), whole.getInt(), whole.getInt(), whole.getInt());
        }
        x.end(bytes.length);
    }
}
