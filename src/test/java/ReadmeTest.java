import java.io.IOException;
import java.lang.reflect.InvocationTargetException;
import java.lang.reflect.Method;
import java.nio.charset.StandardCharsets;
import java.nio.file.Files;
import java.nio.file.Path;
import java.util.Set;
import java.util.TreeSet;
import java.util.regex.Matcher;
import java.util.regex.Pattern;

/** Makes the calls of README.md's example, one behind another, and looks for the answers it tells. */
public final class ReadmeTest {
    private static final Due T = new Due("ReadmeTest");
    private static final Pattern CALL = Pattern.compile("(?m)^x\\.(\\w+)\\(([^)]*)\\);\\s+// (-?\\d+)");

    public static void main(String[] args) throws IOException, ReflectiveOperationException {
        String readme = Files.readString(Path.of(args.length > 0 ? args[0] : ".", "README.md"), StandardCharsets.US_ASCII);
        Matcher text = Pattern.compile("String text = \"([^\"]*)\";").matcher(readme);
        T.due("the example has a text", text.find());
        DoorCases x = new DoorCases();
        Due.type(x, text.group(1));
        Set<String> made = new TreeSet<>(Set.of("type"));
        Matcher call = CALL.matcher(readme);
        while (call.find()) {
            T.due(call.group(), answerOf(x, call.group(1), call.group(2)), Long.parseLong(call.group(3)));
            made.add(call.group(1));
        }
        T.due("the example makes most of the calls: " + made, made.size() >= 23);
        refusals(readme);
        T.end();
    }

    private static long answerOf(DoorCases x, String name, String numbers) throws ReflectiveOperationException {
        Object[] given = numbers.isEmpty() ? new Object[0]
            : Pattern.compile(", ").splitAsStream(numbers).map(Integer::valueOf).toArray();
        for (Method m : DoorCases.class.getMethods()) {
            if (m.getName().equals(name) && m.getParameterCount() == given.length) {
                return ((Number) m.invoke(x, given)).longValue();
            }
        }
        throw new InvocationTargetException(null, "there is no call " + name + " of " + given.length);
    }

    private static void refusals(String readme) {
        T.due("BAD", readme.contains("`BAD` (" + DoorCases.BAD + ")"));
        T.due("STATE", readme.contains("`STATE` (" + DoorCases.STATE + ")"));
        T.due("FULL", readme.contains("`FULL` (" + DoorCases.FULL + ")"));
        T.due("NO", readme.contains("`NO` (" + DoorCases.NO + ")"));
        T.due("NONE", readme.contains("`NONE` (" + DoorCases.NONE + ")"));
        T.due("how the tests are run", readme.contains("\n.ci/run\n"));
    }
}
