import java.io.IOException;
import java.lang.reflect.Executable;
import java.lang.reflect.Field;
import java.lang.reflect.Method;
import java.lang.reflect.Modifier;
import java.nio.file.Files;
import java.nio.file.Path;
import java.util.ArrayList;
import java.util.Arrays;
import java.util.HashSet;
import java.util.List;
import java.util.Set;
import java.util.regex.Matcher;
import java.util.regex.Pattern;

/** The rules of LANGUAGE.md that can be read off the source and the classes. */
public final class LanguageTest {
    private static final Check CHECK = new Check("LanguageTest");
    private static final Path SOURCE = Path.of("src/main/java/RailYard.java");

    public static void main(String[] args) throws IOException {
        String source = Files.readString(SOURCE);
        String code = withoutComments(source);
        libraryIsKeptTo(code);
        wordsAreKeptTo(code);
        methodsAreShort(code);
        List<Class<?>> classes = new ArrayList<>();
        for (Class<?> inside : RailYard.class.getDeclaredClasses()) {
            classes.add(inside);
            CHECK.due("rules 1, 2: private and static: " + inside,
                Modifier.isPrivate(inside.getModifiers())
                    && Modifier.isStatic(inside.getModifiers()), true);
        }
        classes.add(RailYard.class);
        CHECK.due("rule 11: some twelve classes", classes.size() <= 12, true);
        for (Class<?> one : classes) {
            fieldsAreKeptTo(one);
            parametersAreFew(one);
            namesAreNoPublicOnes(one);
        }
        CHECK.end();
    }

    private static String withoutComments(String source) {
        return source.replaceAll("(?s)/\\*.*?\\*/", "").replaceAll("//[^\n]*", "");
    }

    private static void libraryIsKeptTo(String code) {
        Set<String> imports = found(code, "import ([\\w.]+);");
        CHECK.due("rule 4: imports " + imports, Set.of("java.util.Arrays").containsAll(imports),
            true);
        Set<String> calls = found(code, "\\b((?:Arrays|System|Math|Integer|Long)\\.\\w+)\\(");
        Set<String> listed = Set.of("Arrays.fill", "Arrays.copyOf", "Arrays.copyOfRange",
            "System.arraycopy", "Math.max", "Math.min", "Math.abs", "Math.floorDiv",
            "Math.floorMod", "Integer.bitCount");
        CHECK.due("rule 4: calls of the library " + calls, listed.containsAll(calls), true);
    }

    private static Set<String> found(String code, String pattern) {
        Set<String> words = new HashSet<>();
        Matcher matcher = Pattern.compile(pattern).matcher(code);
        while (matcher.find()) {
            words.add(matcher.group(1));
        }
        return words;
    }

    /** The class has no need of exceptions, texts or fractions, so that these are left out too. */
    private static void wordsAreKeptTo(String code) {
        for (String word : new String[] {
            "package", "synchronized", "volatile", "transient", "native", "assert", "finally",
            "try", "catch", "throw", "throws", "double", "float", "String", "protected"
        }) {
            CHECK.due("no " + word, Pattern.compile("\\b" + word + "\\b").matcher(code).find(),
                false);
        }
        CHECK.due("rule 2: no lambda", code.contains("->"), false);
        CHECK.due("rule 2: no method reference", code.contains("::"), false);
        CHECK.due("rule 5: no static block", code.matches("(?s).*\\bstatic\\s*\\{.*"), false);
        CHECK.due("rule 9: no loop without a bound",
            code.matches("(?s).*(while\\s*\\(\\s*true|for\\s*\\(\\s*;\\s*;).*"), false);
    }

    private static void methodsAreShort(String code) {
        String[] lines = code.split("\n", -1);
        int methods = 0;
        for (int i = 0; i < lines.length; i++) {
            if (lines[i].matches(" +[\\w\\[\\] ]+\\([\\w\\[\\], ]*\\) \\{")
                && !lines[i].matches(" +(if|for|while|switch|else|do|return)\\b.*")) {
                methods++;
                CHECK.due("rule 11: short: " + lines[i].trim(), linesToEnd(lines, i) <= 60, true);
            }
        }
        CHECK.due("methods were found", methods > 60, true);
    }

    private static int linesToEnd(String[] lines, int start) {
        int open = 0;
        for (int i = start; i < lines.length; i++) {
            open += lines[i].chars().filter(c -> c == '{').count();
            open -= lines[i].chars().filter(c -> c == '}').count();
            if (open == 0) {
                return i - start + 1;
            }
        }
        return Integer.MAX_VALUE;
    }

    private static void fieldsAreKeptTo(Class<?> one) {
        int own = 0;
        for (Field field : one.getDeclaredFields()) {
            String type = field.getType().getSimpleName();
            if (Modifier.isStatic(field.getModifiers())) {
                CHECK.due("rule 5: final: " + field, Modifier.isFinal(field.getModifiers()), true);
                CHECK.due("rule 5: type: " + field, Set.of("int", "long", "boolean", "char",
                    "int[]", "long[]", "char[]", "byte[]").contains(type), true);
            } else {
                own++;
                CHECK.due("rule 1: private: " + field, Modifier.isPrivate(field.getModifiers()),
                    true);
            }
        }
        CHECK.due("rule 11: some twenty fields: " + one, own <= 20, true);
    }

    private static void parametersAreFew(Class<?> one) {
        List<Executable> all = new ArrayList<>(Arrays.asList(one.getDeclaredMethods()));
        all.addAll(Arrays.asList(one.getDeclaredConstructors()));
        for (Executable each : all) {
            CHECK.due("rule 11: parameters: " + each, each.getParameterCount() <= 7, true);
        }
    }

    private static void namesAreNoPublicOnes(Class<?> one) {
        for (Method method : one.getDeclaredMethods()) {
            for (Method face : RailYard.class.getDeclaredMethods()) {
                if (Modifier.isPublic(face.getModifiers()) && !method.equals(face)) {
                    CHECK.due("rule 1: a name of the face: " + method,
                        method.getName().equals(face.getName()), false);
                }
            }
        }
    }
}
