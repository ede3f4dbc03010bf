import java.io.File;
import java.io.IOException;
import java.lang.reflect.Method;
import java.lang.reflect.Modifier;
import java.nio.file.Files;
import java.nio.file.Path;
import java.util.ArrayList;
import java.util.List;
import java.util.regex.Matcher;
import java.util.regex.Pattern;

/** What README.md says: each call of its example with its answer, all calls of the face, and all tests. */
public final class ReadmeTest {
    private static final Check check = new Check("ReadmeTest");

    public static void main(String[] args) throws IOException {
        String page = Files.readString(Path.of("README.md"));
        example(page);
        calls(page);
        tests(page);
        check.end();
    }

    /** The example's calls, as the page has to write them. */
    private static List<String> played() {
        RollingFob x = new RollingFob();
        List<String> due = new ArrayList<>();
        due.add("x.learn(0, 0, 1) " + x.learn(0, 0, 1));
        due.add("x.press(1, 0b001) " + x.press(1, 0b001));
        due.add("x.opensIn(1, 0) " + x.opensIn(1, 0));
        due.add("x.again(0, 0b001) " + x.again(0, 0b001));
        due.add("x.press(1, 0b000) " + x.press(1, 0b000));
        due.add("x.useful(0) " + x.useful(0));
        due.add("x.unheard(1, 0) " + x.unheard(1, 0));
        Check.write(x, "f10;c0");
        due.add("x.firstError() " + x.firstError());
        due.add("x.play() " + x.play());
        due.add("x.undo() " + x.undo());
        return due;
    }

    private static void example(String page) {
        List<String> written = new ArrayList<>();
        Matcher line = Pattern.compile("(?m)^(x\\..*);\\s+// (-?\\d+): ").matcher(page);
        while (line.find()) {
            written.add(line.group(1) + " " + line.group(2));
        }
        List<String> due = played();
        check.same("the example's calls", written.size(), due.size());
        for (int i = 0; i < written.size() && i < due.size(); i++) {
            check.holds("README: " + written.get(i) + ", due is " + due.get(i), written.get(i).equals(due.get(i)));
        }
        check.holds("the example's text", page.contains("\"f10;c0\".toCharArray()"));
    }

    private static void calls(String page) {
        for (Method method : RollingFob.class.getDeclaredMethods()) {
            if (Modifier.isPublic(method.getModifiers())) {
                String row = "| `" + method.getName() + "(";
                int at = page.indexOf(row);
                check.holds("a row for " + method.getName(), at >= 0);
                String arguments = at < 0 ? "" : page.substring(at + row.length(), page.indexOf(')', at));
                int count = arguments.isEmpty() ? 0 : arguments.split(", ").length;
                check.same("arguments of " + method.getName(), count, method.getParameterCount());
            }
        }
    }

    private static void tests(String page) {
        String[] files = new File("tests").list();
        check.holds("there are tests", files != null && files.length > 0);
        for (String file : files == null ? new String[0] : files) {
            String name = file.replace(".java", "");
            check.holds("a row for " + name, !name.endsWith("Test") || page.contains("| " + name + " |"));
        }
    }
}
