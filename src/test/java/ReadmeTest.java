import java.io.IOException;
import java.nio.file.Files;
import java.nio.file.Path;
import java.util.ArrayList;
import java.util.List;
import java.util.regex.Matcher;
import java.util.regex.Pattern;

/** The example in README.md: its calls are read from there and made, and their comments are compared. */
final class ReadmeTest {
    private static final Pattern CALL = Pattern.compile("(?:int \\w+ = )?card\\.(\\w+)\\((.*)\\); +// (.*)");
    private static final Pattern TOLD = Pattern.compile("(\\d+)\\b.*");

    public static void main(String[] args) throws IOException {
        Checks checks = new Checks();
        AppletFirewall card = new AppletFirewall();
        List<String> lines = example();
        checks.due("the first line", lines.get(0), "AppletFirewall card = new AppletFirewall();");
        for (String line : lines.subList(1, lines.size())) {
            Matcher call = CALL.matcher(line);
            checks.due("is a call with a comment: " + line, call.matches(), true);
            checks.due(line, answer(card, call.group(1), call.group(2)), told(call.group(1), call.group(3)));
        }
        checks.due("the state at the end", card.session(), AppletFirewall.NONE);
        checks.end();
    }

    private static List<String> example() throws IOException {
        List<String> lines = new ArrayList<>();
        boolean inside = false;
        for (String line : Files.readAllLines(Path.of("README.md"))) {
            if (line.startsWith("```")) {
                inside = line.equals("```java");
            } else if (inside) {
                lines.add(line);
            }
        }
        return lines;
    }

    private static long answer(AppletFirewall card, String name, String arguments) {
        String[] parts = arguments.split(", ");
        switch (name) {
            case "put":
                return card.put(Long.decode(parts[0].replace("L", "")), Integer.parseInt(parts[1])) ? 1 : 0;
            case "run":
                return card.run();
            case "response":
                return card.response(Integer.parseInt(parts[0]));
            case "tear":
                return card.tear(Integer.parseInt(parts[0])) ? 1 : 0;
            case "reset":
                return card.reset();
            case "data":
                return card.data(Integer.parseInt(parts[0]), Integer.parseInt(parts[1]));
            default:
                throw new IllegalArgumentException(name);
        }
    }

    /** The answers of put and tear are not told: there the comment says what the call is for. */
    private static long told(String name, String comment) {
        if (name.equals("put") || name.equals("tear")) {
            return 1;
        }
        if (comment.startsWith("AppletFirewall.OFF")) {
            return AppletFirewall.OFF;
        }
        Matcher number = TOLD.matcher(comment);
        return number.matches() ? Long.parseLong(number.group(1)) : Long.MIN_VALUE;
    }
}
