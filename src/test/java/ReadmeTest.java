import java.io.File;
import java.lang.reflect.Method;
import java.lang.reflect.Modifier;
import java.nio.file.Files;
import java.nio.file.Path;
import java.util.List;
import java.util.Set;
import java.util.TreeSet;
import java.util.regex.Matcher;
import java.util.regex.Pattern;

/** What README.md shows: each call is answered as the comment behind it says, in one run from the first on. */
public final class ReadmeTest {
    private static final Due DUE = new Due("ReadmeTest");
    private static final Pattern BLOCK = Pattern.compile("(?s)```java\n(.*?)```");
    private static final Pattern CALL = Pattern.compile("x\\.((\\w+)\\([^()]*\\)); *// (\\w+|-1)(: .*|; .*)?");
    private static final Pattern TEXT = Pattern.compile("text\\(x, \"([^\"]*)\"\\);");
    private static final Pattern LISTED = Pattern.compile("(?m)^\\| `(\\w+)` \\|");

    private final Set<String> shown = new TreeSet<>();
    private Run.Played played = Run.onNew().play();

    public static void main(String[] args) throws Exception {
        String page = Files.readString(Path.of("README.md"));
        new ReadmeTest().playAll(page);
        testsListed(page);
        DUE.close();
    }

    private void playAll(String page) throws Exception {
        Matcher block = BLOCK.matcher(page);
        while (block.find()) {
            if (block.group(1).contains("static void ")) {
                isOfDue(block.group(1));
            } else {
                block.group(1).lines().forEach(this::playLine);
            }
        }
        for (Method method : CabRanks.class.getDeclaredMethods()) {
            if (Modifier.isPublic(method.getModifiers())) {
                DUE.is("README.md shows " + method.getName(), shown.contains(method.getName()), true);
            }
        }
    }

    /** The helping methods that are shown are those that play the shown texts. */
    private static void isOfDue(String code) throws Exception {
        String due = Files.readString(Path.of("src/test/java/Due.java"));
        DUE.is("the methods shown are Due's", unindented(due).contains(unindented(code)), true);
    }

    private static String unindented(String code) {
        return code.replaceAll("(?m)^ +", "");
    }

    private void playLine(String line) {
        Matcher call = CALL.matcher(line);
        Matcher text = TEXT.matcher(line);
        if (line.equals("CabRanks x = new CabRanks();")) {
            played = Run.onNew().play();
        } else if (text.matches()) {
            Due.text(played.object(), text.group(1));
        } else if (call.matches()) {
            shown.add(call.group(2));
            DUE.is("README.md: " + call.group(1), played.ask(call.group(1)), Run.number(call.group(3)));
        } else {
            DUE.is("a line that shows an answer: " + line, line.startsWith("// "), true);
        }
    }

    private static void testsListed(String page) {
        Set<String> listed = new TreeSet<>();
        Matcher row = LISTED.matcher(page);
        while (row.find()) {
            listed.add(row.group(1));
        }
        Set<String> there = new TreeSet<>();
        File[] files = new File("src/test/java").listFiles();
        for (File file : files == null ? List.<File>of() : List.of(files)) {
            if (file.getName().endsWith("Test.java")) {
                there.add(file.getName().replace(".java", ""));
            }
        }
        DUE.is("the tests listed are " + there, listed.equals(there), true);
    }
}
