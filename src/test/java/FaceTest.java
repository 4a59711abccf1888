import java.lang.reflect.Constructor;
import java.lang.reflect.Field;
import java.lang.reflect.Method;
import java.lang.reflect.Modifier;
import java.util.ArrayList;
import java.util.Arrays;
import java.util.Collections;
import java.util.List;

/** The face is the document's and nothing else (LANGUAGE.md, rule 1). */
public final class FaceTest {
    private static final String[] FACE = {
        "boolean order(int,int)", "boolean reverse(int)", "boolean signal(int,int,int,int,boolean)",
        "boolean track(int,int,int,boolean)", "int blocked()", "int clock()", "int delivered()",
        "int held(int,int)", "int holder(int,int,int)", "int load(int)", "int motion(int)",
        "int pieces(int,int)", "int produced()", "int signals(int,int,int)",
        "int station(int,int,int,int)", "int target(int)", "int tick(int)",
        "int toGo(int,int,int,int,int)", "int train(int,int,int,int,int)", "int waiting(int)",
        "void restore()", "void save()"
    };

    public static void main(String[] args) {
        Check check = new Check("FaceTest");
        check.due("the class is public and final",
            RailYard.class.getModifiers(), Modifier.PUBLIC | Modifier.FINAL);
        check.due("methods", methods().equals(Arrays.asList(FACE)), true);
        check.due("constructors", RailYard.class.getDeclaredConstructors().length, 1);
        Constructor<?> made = RailYard.class.getDeclaredConstructors()[0];
        check.due("constructor", signature("RailYard", made.getParameterTypes())
            .equals("RailYard(int,int)") && Modifier.isPublic(made.getModifiers()), true);
        check.due("fields", fields().equals(Arrays.asList("FULL", "NONE")), true);
        check.due("NONE", RailYard.NONE, -1);
        check.due("FULL", RailYard.FULL, -2);
        check.due("no private method bears a public one's name", namesakes(), 0);
        check.end();
    }

    private static List<String> methods() {
        List<String> found = new ArrayList<>();
        for (Method method : RailYard.class.getDeclaredMethods()) {
            if (!Modifier.isPrivate(method.getModifiers())) {
                String name = method.getReturnType().getSimpleName() + " " + method.getName();
                found.add(signature(name, method.getParameterTypes()));
            }
        }
        Collections.sort(found);
        return found;
    }

    private static String signature(String name, Class<?>[] parameters) {
        List<String> types = new ArrayList<>();
        for (Class<?> parameter : parameters) {
            types.add(parameter.getSimpleName());
        }
        return name + "(" + String.join(",", types) + ")";
    }

    private static List<String> fields() {
        List<String> found = new ArrayList<>();
        for (Field field : RailYard.class.getDeclaredFields()) {
            if (!Modifier.isPrivate(field.getModifiers())) {
                found.add(field.getName());
            }
        }
        Collections.sort(found);
        return found;
    }

    private static int namesakes() {
        int found = 0;
        for (Method method : RailYard.class.getDeclaredMethods()) {
            for (Method other : RailYard.class.getDeclaredMethods()) {
                if (Modifier.isPrivate(method.getModifiers())
                    && Modifier.isPublic(other.getModifiers())
                    && method.getName().equals(other.getName())) {
                    found++;
                }
            }
        }
        return found;
    }
}
