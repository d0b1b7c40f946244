import java.nio.charset.StandardCharsets;
import java.nio.file.DirectoryStream;
import java.nio.file.Files;
import java.nio.file.Path;
import java.util.ArrayList;
import java.util.List;
import java.util.Set;
import java.util.TreeSet;
import java.util.regex.Matcher;
import java.util.regex.Pattern;

/** What README.md says: its calls are read from its page and made, and must answer what it tells. */
public final class ReadmeTest {
    private static final Checks CHECKS = new Checks();
    private static final Pattern CALL = Pattern.compile("x\\.(\\w+)\\((.*)\\); +// (\\d+)\\b.*");
    private static final Pattern TYPING =
            Pattern.compile("for \\(char sign : \"(.*)\"\\.toCharArray\\(\\)\\) x\\.type\\(sign\\);");

    public static void main(String[] args) throws Exception {
        String page = Files.readString(Path.of("README.md"), StandardCharsets.UTF_8);
        calls(page);
        constants(page);
        tests(page);
        CHECKS.end("ReadmeTest");
    }

    private static void calls(String page) throws Exception {
        TiltBoards x = null;
        Set<String> called = new TreeSet<>();
        for (String line : block(page)) {
            Matcher typing = TYPING.matcher(line);
            Matcher call = CALL.matcher(line);
            if (line.equals("TiltBoards x = new TiltBoards();")) {
                x = new TiltBoards();
            } else if (typing.matches()) {
                Checks.typeAll(x, typing.group(1));
            } else if (call.matches()) {
                called.add(call.group(1));
                CHECKS.due(line, answer(x, call.group(1), call.group(2)), Integer.parseInt(call.group(3)));
            } else {
                CHECKS.due("a line of the page that is no call: " + line, line.isEmpty());
            }
        }
        CHECKS.due("kinds of calls on the page: " + called, called.size() > 15);
    }

    private static List<String> block(String page) {
        String start = "```java\n";
        int from = page.indexOf(start) + start.length();
        return List.of(page.substring(from, page.indexOf("```", from)).split("\n"));
    }

    private static int answer(TiltBoards x, String name, String arguments) throws Exception {
        List<Class<?>> types = new ArrayList<>();
        List<Object> values = new ArrayList<>();
        for (String argument : arguments.isEmpty() ? new String[0] : arguments.split(", ")) {
            boolean isNumber = Character.isDigit(argument.charAt(0));
            types.add(isNumber ? int.class : boolean.class);
            values.add(isNumber ? (Object) Integer.valueOf(argument) : (Object) Boolean.valueOf(argument));
        }
        return (Integer) TiltBoards.class.getMethod(name, types.toArray(new Class<?>[0])).invoke(x, values.toArray());
    }

    private static void constants(String page) throws Exception {
        Matcher row = Pattern.compile("(?m)^\\| `(\\w+)` \\((-\\d)\\) \\|").matcher(page);
        int rows = 0;
        while (row.find()) {
            int value = TiltBoards.class.getField(row.group(1)).getInt(null);
            CHECKS.due(row.group(1) + " on the page", Integer.parseInt(row.group(2)), value);
            rows++;
        }
        CHECKS.due("constants on the page", rows, 5);
    }

    private static void tests(String page) throws Exception {
        Set<String> told = new TreeSet<>();
        Matcher row = Pattern.compile("(?m)^\\| (\\w+Test) \\|").matcher(page);
        while (row.find()) {
            told.add(row.group(1));
        }
        Set<String> there = new TreeSet<>();
        try (DirectoryStream<Path> files = Files.newDirectoryStream(Path.of("src/test/java"), "*Test.java")) {
            for (Path file : files) {
                there.add(file.getFileName().toString().replace(".java", ""));
            }
        }
        CHECKS.due("the page tells of " + told + ", there are " + there, told.equals(there));
    }
}
