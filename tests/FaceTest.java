import java.io.IOException;
import java.lang.reflect.Constructor;
import java.lang.reflect.Field;
import java.lang.reflect.Member;
import java.lang.reflect.Method;
import java.lang.reflect.Modifier;
import java.nio.file.Files;
import java.nio.file.Path;
import java.util.ArrayList;
import java.util.List;
import java.util.TreeSet;
import java.util.regex.Matcher;
import java.util.regex.Pattern;

/** The public face as the document has it, and the rules of LANGUAGE.md that a look at the program can tell. */
public final class FaceTest {
    private static final Check check = new Check("FaceTest");
    private static final String INDEX = "(?<!new )\\b\\w+\\[([^\\]]+)\\]";
    private static final String[] FACE = {
        "int make(int,int,int) IndexOutOfBoundsException IllegalArgumentException",
        "int battery(int,int) IndexOutOfBoundsException IllegalArgumentException",
        "int press(int,int) IndexOutOfBoundsException IllegalArgumentException IllegalStateException",
        "int again(int,int) IndexOutOfBoundsException IllegalArgumentException",
        "int learn(int,int,int) IndexOutOfBoundsException",
        "int forget(int,int) IndexOutOfBoundsException",
        "int shut(int) IndexOutOfBoundsException",
        "int unlock(int) IndexOutOfBoundsException",
        "int set(int,int) IndexOutOfBoundsException IllegalArgumentException",
        "int append(int) IllegalArgumentException IllegalStateException",
        "int clearBuffer()",
        "int firstError()",
        "int play() IllegalArgumentException",
        "int undo() IllegalStateException",
        "int fob(int,int) IndexOutOfBoundsException IllegalArgumentException",
        "int slot(int,int,int) IndexOutOfBoundsException IllegalArgumentException",
        "int door(int,int) IndexOutOfBoundsException IllegalArgumentException",
        "int air(int) IllegalArgumentException",
        "int count(int) IllegalArgumentException",
        "int setting(int) IndexOutOfBoundsException",
        "int ifHeard(int,int) IndexOutOfBoundsException IllegalArgumentException",
        "int opensIn(int,int) IndexOutOfBoundsException",
        "int unheard(int,int) IndexOutOfBoundsException",
        "int useful(int) IndexOutOfBoundsException",
        "double openShare()",
        "long digest()"};

    public static void main(String[] args) throws IOException {
        face();
        String text = Files.readString(Path.of("src/main/java/RollingFob.java"));
        String program = text.replaceAll("(?s)/\\*.*?\\*/", "").replaceAll("//.*", "");
        source(program);
        indexes(program);
        lengthsAndDivisors(program);
        check.end();
    }

    private static String told(Method method) {
        List<String> kinds = new ArrayList<>();
        for (Class<?> kind : method.getParameterTypes()) {
            kinds.add(kind.getSimpleName());
        }
        StringBuilder text = new StringBuilder();
        text.append(method.getReturnType().getSimpleName()).append(' ').append(method.getName());
        text.append('(').append(String.join(",", kinds)).append(')');
        for (Class<?> thrown : method.getExceptionTypes()) {
            text.append(' ').append(thrown.getSimpleName());
        }
        return text.toString();
    }

    private static void face() {
        TreeSet<String> names = new TreeSet<>();
        List<String> due = new ArrayList<>(List.of(FACE));
        for (Method method : RollingFob.class.getDeclaredMethods()) {
            if (Modifier.isPublic(method.getModifiers())) {
                check.holds(told(method) + " is of the document", due.remove(told(method)));
                check.holds(told(method) + " is not static", !Modifier.isStatic(method.getModifiers()));
                names.add(method.getName());
            }
        }
        check.holds("the face lacks " + due, due.isEmpty());
        for (Method method : RollingFob.class.getDeclaredMethods()) {
            privateOrFace(method, !names.contains(method.getName()));
        }
        for (Field field : RollingFob.class.getDeclaredFields()) {
            privateOrFace(field, !field.getName().equals("NONE"));
            boolean fixed = Modifier.isFinal(field.getModifiers()) || !Modifier.isStatic(field.getModifiers());
            check.holds(field.getName() + " is final, if it is static", fixed);
        }
        for (Constructor<?> made : RollingFob.class.getDeclaredConstructors()) {
            check.holds("the constructor", Modifier.isPublic(made.getModifiers()) && made.getParameterCount() == 0);
        }
        for (Class<?> inner : RollingFob.class.getDeclaredClasses()) {
            check.holds(inner + " is private", Modifier.isPrivate(inner.getModifiers()));
            check.holds(inner + " is static", Modifier.isStatic(inner.getModifiers()));
        }
        check.holds("some twelve classes", RollingFob.class.getDeclaredClasses().length <= 12);
        check.holds("the class is final", Modifier.isFinal(RollingFob.class.getModifiers()));
        check.holds("NONE is an int", RollingFob.NONE == -1);
    }

    private static void privateOrFace(Member member, boolean own) {
        boolean right = own ? Modifier.isPrivate(member.getModifiers()) : Modifier.isPublic(member.getModifiers());
        check.holds(member + " is private or of the face", right || member.isSynthetic());
    }

    private static void source(String text) {
        String[] barred = {"\\bimport\\b", "\\bpackage\\b", "->", "::", "\\btry\\b", "\\bcatch\\b", "\\bfinally\\b",
            "\\bsynchronized\\b", "\\bassert\\b", "\\bprotected\\b", "\\binstanceof\\b",
            "\\bDouble\\b", "\\bFloat\\b", "Exact\\b", "\\bSystem\\.(?!arraycopy\\b)", "\"[^\"]*\" *\\+", "\\+ *\"",
            "\\bMath\\.(?!(min|max|abs|floorDiv|floorMod)\\b)", "\\bInteger\\.(?!bitCount\\b)",
            "\\bLong\\b", "\\bThread\\b", "\\bRandom\\b", "[^\\x00-\\x7f]"};
        for (String bar : barred) {
            Matcher found = Pattern.compile(bar).matcher(text);
            check.holds("no " + bar + " in the program", !found.find());
        }
        Matcher thrown = Pattern.compile("throw new (\\w+)").matcher(text);
        while (thrown.find()) {
            check.holds("throw new " + thrown.group(1), thrown.group(1).matches(
                    "IllegalStateException|IllegalArgumentException|IndexOutOfBoundsException"));
        }
    }

    /** Rule 7: an index is looked at in the very method that uses it, or made by floorMod. */
    private static void indexes(String text) {
        // From a line that ends with "{" behind a method's brackets to the "}" just below its start.
        Matcher method = Pattern.compile("(?ms)^( {4}| {8})\\w[^;{=]*\\)[^;{=]*\\{$(.*?)^\\1\\}$").matcher(text);
        int seen = 0;
        while (method.find()) {
            for (String index : allOf(INDEX, method.group(2))) {
                seen++;
                check.holds("[" + index + "] is looked at", lookedAt(method.group(2), index));
            }
        }
        check.same("the indexes that are in methods", seen, allOf(INDEX, text).size());
    }

    private static boolean lookedAt(String method, String index) {
        if (index.matches("[0-9]|Math\\.floorMod\\(\\w+, [A-Z]+\\)")) {
            return true;
        }
        String compared = "\\b" + index + " (<|>=) ";
        String needed = "\\b(needIndex|canPress)\\(" + index + "\\b";
        return Pattern.compile(compared + "|" + needed).matcher(method).find();
    }

    private static void lengthsAndDivisors(String text) {
        for (String length : allOf("\\bnew \\w+\\[([^\\]]+)\\]", text)) {
            check.holds("the length " + length + " is a constant", length.matches("[A-Z]+"));
        }
        // openShare divides by what it has compared with 0.
        for (String divisor : allOf("[/%] *=? *(\\(?[\\w.]+)", text)) {
            check.holds("the divisor " + divisor + " is a constant", divisor.matches("\\(?[A-Z_]+|\\(double"));
        }
    }

    private static List<String> allOf(String pattern, String text) {
        List<String> all = new ArrayList<>();
        Matcher found = Pattern.compile(pattern).matcher(text);
        while (found.find()) {
            all.add(found.group(1));
        }
        return all;
    }
}
