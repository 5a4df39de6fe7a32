import java.io.IOException;
import java.lang.reflect.Method;
import java.nio.file.Files;
import java.nio.file.Path;
import java.util.HashSet;
import java.util.Set;
import java.util.regex.Matcher;
import java.util.regex.Pattern;

/** Makes the calls of README.md's example and compares each answer with the one written beside it. */
public final class ReadmeTest {
    private static final Pattern MAKING = Pattern.compile("BranchTimes port = new BranchTimes\\((-?\\d+)\\);");
    private static final Pattern CALL =
            Pattern.compile("port\\.(\\w+)\\(([^)]*)\\);(?:\\s*// (-?\\d+|true|false)(?::.*)?)?");
    private static final Set<String> METHODS = Set.of("tick", "hello", "report", "leave", "join", "prune", "forget",
            "joined", "cut", "members", "goes", "look");

    private static final Set<String> called = new HashSet<>();
    private static BranchTimes port = null;
    private static int wrong = 0;

    public static void main(String[] args) throws IOException, ReflectiveOperationException {
        boolean inExample = false;
        for (String line : Files.readAllLines(Path.of("README.md"))) {
            if (line.startsWith("```")) {
                inExample = line.equals("```java");
            } else if (inExample) {
                follow(line);
            }
        }
        if (!called.equals(METHODS)) {
            say("the example calls " + called + ", due is " + METHODS);
        }
        System.out.println(wrong == 0 ? "readme: all as due" : "readme: " + wrong + " lines are not as due");
        if (wrong != 0) {
            System.exit(1);
        }
    }

    private static void follow(String line) throws ReflectiveOperationException {
        Matcher making = MAKING.matcher(line);
        Matcher call = CALL.matcher(line);
        if (making.matches()) {
            port = new BranchTimes(Integer.parseInt(making.group(1)));
        } else if (call.matches() && port != null) {
            String got = String.valueOf(answer(call.group(1), call.group(2)));
            // A call without an answer (forget) comes back as null, and so does a comment that is not there.
            if (!got.equals(String.valueOf(call.group(3)))) {
                say(line + " answered " + got);
            }
        } else {
            say("cannot be read: " + line);
        }
    }

    private static Object answer(String name, String arguments) throws ReflectiveOperationException {
        String[] texts = arguments.isEmpty() ? new String[0] : arguments.split(", ");
        Class<?>[] types = new Class<?>[texts.length];
        Object[] values = new Object[texts.length];
        for (int i = 0; i < texts.length; i++) {
            types[i] = int.class;
            values[i] = texts[i].equals("BranchTimes.NONE") ? BranchTimes.NONE : Integer.parseInt(texts[i]);
        }
        called.add(name);
        Method method = BranchTimes.class.getMethod(name, types);
        return method.invoke(port, values);
    }

    private static void say(String what) {
        wrong++;
        System.out.println(what);
    }
}
