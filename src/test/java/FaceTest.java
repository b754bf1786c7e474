import java.lang.reflect.Constructor;
import java.lang.reflect.Field;
import java.lang.reflect.Method;
import java.lang.reflect.Modifier;
import java.util.ArrayList;
import java.util.Arrays;
import java.util.HashSet;
import java.util.List;
import java.util.Set;
import java.util.TreeSet;

/** The class shows the document's face and nothing else: rules 1 and 5 of LANGUAGE.md. */
public final class FaceTest {
    private static final String INDEX = " throws IndexOutOfBoundsException";
    private static final String BOTH = " throws IndexOutOfBoundsException, IllegalArgumentException";
    private static final List<String> FACE = Arrays.asList(
        "int tell(int, int, int, int, int)" + BOTH,
        "int tellSecond(int, int)" + BOTH,
        "int tellNumber(int, int, int)" + BOTH,
        "int tellKnown(int, int)" + BOTH,
        "int take(int, int)" + INDEX,
        "int with(int, int, int)" + BOTH,
        "int plus(int, int, int, int)" + BOTH,
        "int minus(int, int, int, int)" + BOTH,
        "int walk(int, int, int, int)" + BOTH,
        "int cut(int, int)" + BOTH,
        "int of(int, int)" + BOTH,
        "String number(int)" + INDEX,
        "String text(int)" + INDEX,
        "String beyond(int, int)" + BOTH,
        "int compare(int, int)" + INDEX,
        "boolean isAhead(int, int)" + INDEX,
        "boolean isBehind(int, int)" + INDEX,
        "boolean areAlike(int, int)" + INDEX,
        "String between(int, int, int)" + BOTH,
        "String order()",
        "int kinds()",
        "int knock()",
        "int house(int) throws IllegalArgumentException",
        "boolean isSound()",
        "long digest()");

    private static int wrong = 0;

    public static void main(String[] args) {
        lookAtClass();
        lookAtMethods();
        lookAtFields();
        System.out.println(wrong == 0 ? "the face is as due" : wrong + " faults in the face");
        if (wrong != 0) {
            System.exit(1);
        }
    }

    private static void lookAtClass() {
        int kind = Clocksolo.class.getModifiers();
        need(Modifier.isPublic(kind) && Modifier.isFinal(kind), "the class is public and final");
        Constructor<?>[] constructors = Clocksolo.class.getDeclaredConstructors();
        need(constructors.length == 1, "there is one constructor");
        for (Constructor<?> constructor : constructors) {
            need(Modifier.isPublic(constructor.getModifiers()), "the constructor is public");
            need(constructor.getParameterCount() == 0, "the constructor takes nothing");
        }
    }

    private static void lookAtMethods() {
        Set<String> shown = new TreeSet<>();
        Set<String> publicNames = new HashSet<>();
        List<String> hiddenNames = new ArrayList<>();
        for (Method method : Clocksolo.class.getDeclaredMethods()) {
            if (Modifier.isPrivate(method.getModifiers())) {
                hiddenNames.add(method.getName());
            } else {
                need(Modifier.isPublic(method.getModifiers()), method.getName() + " is public or private");
                need(!Modifier.isStatic(method.getModifiers()), method.getName() + " is a method of the object");
                shown.add(written(method));
                publicNames.add(method.getName());
            }
        }
        need(shown.equals(new TreeSet<>(FACE)), "the public methods are those of the document: " + shown);
        for (String name : hiddenNames) {
            need(!publicNames.contains(name), "no private method bears the public name " + name);
        }
    }

    private static void lookAtFields() {
        for (Field field : Clocksolo.class.getDeclaredFields()) {
            int kind = field.getModifiers();
            need(Modifier.isPrivate(kind), field.getName() + " is private");
            need(!Modifier.isStatic(kind) || Modifier.isFinal(kind), field.getName() + " is final if static");
        }
    }

    private static String written(Method method) {
        StringBuilder text = new StringBuilder();
        text.append(method.getReturnType().getSimpleName()).append(' ').append(method.getName()).append('(');
        text.append(names(method.getParameterTypes())).append(')');
        if (method.getExceptionTypes().length > 0) {
            text.append(" throws ").append(names(method.getExceptionTypes()));
        }
        return text.toString();
    }

    private static String names(Class<?>[] types) {
        List<String> names = new ArrayList<>();
        for (Class<?> type : types) {
            names.add(type.getSimpleName());
        }
        return String.join(", ", names);
    }

    private static void need(boolean holds, String what) {
        if (!holds) {
            wrong++;
            System.out.println("not so: " + what);
        }
    }
}
