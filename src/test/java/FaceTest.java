import java.io.IOException;
import java.lang.reflect.Constructor;
import java.lang.reflect.Field;
import java.lang.reflect.Method;
import java.lang.reflect.Modifier;
import java.nio.charset.StandardCharsets;
import java.nio.file.Files;
import java.nio.file.Path;
import java.util.Arrays;
import java.util.List;
import java.util.Set;
import java.util.TreeSet;
import java.util.regex.Matcher;
import java.util.regex.Pattern;

/** The document's face, no more and no less, and the rules of LANGUAGE.md that a text search can see. */
public final class FaceTest {
    private static final Due T = new Due("FaceTest");
    private static final List<String> FACE = List.of(
        "int type(int)", "int clear()", "int house()", "int room(int,int)", "int doing(int,int)", "int suspect(int)",
        "int now(int)", "int goes(int)", "int does(int)", "int asks(int)", "int undo()", "int soonest(int,int)",
        "int loved()", "int round(int)", "int country()", "int next()", "int questions()", "int felt(int,int)",
        "int forget()", "int tempers()", "int which(int,int)", "int odds(int,int,int,int,int)", "int rate(int,int)",
        "int keep(int)", "int back(int)", "int count(int)", "long trace()");
    private static final int LONGEST_METHOD = 60;

    public static void main(String[] args) throws IOException {
        methods();
        membersAndConstants();
        String source = Files.readString(
            Path.of(args.length > 0 ? args[0] : ".", "src/main/java/DoorCases.java"), StandardCharsets.US_ASCII);
        words(source);
        lengths(source);
        T.end();
    }

    private static void methods() {
        Set<String> found = new TreeSet<>();
        Set<String> names = new TreeSet<>();
        for (Method m : DoorCases.class.getDeclaredMethods()) {
            if (Modifier.isPublic(m.getModifiers())) {
                found.add(faceOf(m));
                names.add(m.getName());
            }
        }
        T.due("the public methods are those of the document", found.equals(new TreeSet<>(FACE)));
        for (Class<?> c : allClasses()) {
            for (Method m : c.getDeclaredMethods()) {
                boolean own = c != DoorCases.class || !Modifier.isPublic(m.getModifiers());
                T.due(c.getName() + "." + m.getName() + " bears no public name", !(own && names.contains(m.getName())));
                T.due(m.getName() + " takes seven at most", m.getParameterCount() <= 7);
            }
            long fields = Arrays.stream(c.getDeclaredFields()).filter(f -> !Modifier.isStatic(f.getModifiers())).count();
            T.due(c.getName() + " has some twenty fields at most", fields <= 20);
        }
    }

    private static Class<?>[] allClasses() {
        Class<?>[] inside = DoorCases.class.getDeclaredClasses();
        T.due("some twelve classes at most", inside.length + 1 <= 12);
        Class<?>[] all = Arrays.copyOf(inside, inside.length + 1);
        all[inside.length] = DoorCases.class;
        return all;
    }

    private static String faceOf(Method m) {
        StringBuilder s = new StringBuilder(m.getReturnType().getName()).append(' ').append(m.getName()).append('(');
        for (int i = 0; i < m.getParameterCount(); i++) {
            s.append(i == 0 ? "" : ",").append(m.getParameterTypes()[i].getName());
        }
        return s.append(')').toString();
    }

    private static void membersAndConstants() {
        T.due("BAD", DoorCases.BAD, -1);
        T.due("STATE", DoorCases.STATE, -2);
        T.due("FULL", DoorCases.FULL, -3);
        T.due("NONE", DoorCases.NONE, -9);
        T.due("NO", DoorCases.NO, -1000000);
        T.due("the class is public and final",
            Modifier.isPublic(DoorCases.class.getModifiers()) && Modifier.isFinal(DoorCases.class.getModifiers()));
        Set<String> constants = Set.of("BAD", "STATE", "FULL", "NONE", "NO");
        for (Field f : DoorCases.class.getDeclaredFields()) {
            T.due("field " + f.getName() + " is private or of the document",
                constants.contains(f.getName()) == Modifier.isPublic(f.getModifiers())
                    && (Modifier.isPublic(f.getModifiers()) || Modifier.isPrivate(f.getModifiers())));
            T.due("static field " + f.getName() + " is final",
                !Modifier.isStatic(f.getModifiers()) || Modifier.isFinal(f.getModifiers()));
        }
        for (Method m : DoorCases.class.getDeclaredMethods()) {
            T.due("method " + m.getName() + " is public or private",
                Modifier.isPublic(m.getModifiers()) || Modifier.isPrivate(m.getModifiers()));
        }
        Constructor<?>[] made = DoorCases.class.getDeclaredConstructors();
        T.due("one constructor", made.length, 1);
        T.due("public, without arguments", made[0].getParameterCount() == 0 && Modifier.isPublic(made[0].getModifiers()));
        for (Class<?> c : DoorCases.class.getDeclaredClasses()) {
            T.due(c.getName() + " is static", Modifier.isStatic(c.getModifiers()));
        }
    }

    private static void words(String source) {
        String code = source.replaceAll("(?s)/\\*.*?\\*/", "").replaceAll("//[^\n]*", "");
        String[] ruledOut = {
            "throw", "throws", "try", "catch", "finally", "synchronized", "assert", "package", "Object", "hashCode",
            "toString", "System.in", "System.out", "System.err", "currentTimeMillis", "nanoTime", "Random", "Thread"};
        for (String word : ruledOut) {
            boolean there = Pattern.compile("\\b" + Pattern.quote(word) + "\\b").matcher(code).find();
            T.due("the word " + word + " does not stand in the class", !there);
        }
        T.due("no lambda and no method reference", !code.contains("->") && !code.contains("::"));
        Matcher used = Pattern.compile("\\b(Math|Integer|Arrays|System)\\.(\\w+)").matcher(code);
        Set<String> allowed = Set.of("abs", "max", "min", "bitCount", "fill", "arraycopy");
        while (used.find()) {
            T.due(used.group() + " is of the library", allowed.contains(used.group(2)));
        }
        Matcher imports = Pattern.compile("import ([^;]*);").matcher(code);
        while (imports.find()) {
            T.due("import of " + imports.group(1), imports.group(1).equals("java.util.Arrays"));
        }
    }

    private static void lengths(String source) {
        int start = -1;
        String indent = "";
        String[] lines = source.split("\n");
        for (int i = 0; i < lines.length; i++) {
            Matcher opens = Pattern.compile("^( {4}| {8})(?!.*\\bclass\\b)\\w.*\\) \\{$").matcher(lines[i]);
            if (start < 0 && opens.find()) {
                start = i;
                indent = opens.group(1);
            } else if (start >= 0 && lines[i].equals(indent + "}")) {
                T.due("the method at line " + (start + 1) + " is short", i - start < LONGEST_METHOD);
                start = -1;
            }
        }
    }
}
