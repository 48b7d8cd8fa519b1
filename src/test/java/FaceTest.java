import java.lang.reflect.Constructor;
import java.lang.reflect.Field;
import java.lang.reflect.Member;
import java.lang.reflect.Method;
import java.lang.reflect.Modifier;
import java.util.ArrayList;
import java.util.List;
import java.util.TreeSet;

/** The face of the class is the document's: every member with its modifiers and exceptions, and no other. */
public final class FaceTest {
    private static int wrong = 0;

    private static void due(String what, Object got, Object want) {
        if (!got.equals(want)) {
            wrong++;
            System.out.println(what + " is " + got + ", due is " + want);
        }
    }

    private static String exceptions(Class<?>[] thrown) {
        TreeSet<String> names = new TreeSet<>();
        for (Class<?> one : thrown) {
            names.add(one.getSimpleName());
        }
        return names.toString();
    }

    private static String parameters(Class<?>[] types) {
        List<String> names = new ArrayList<>();
        for (Class<?> one : types) {
            names.add(one.getSimpleName());
        }
        return names.toString();
    }

    private static boolean hidden(Member member) {
        return member.isSynthetic() || Modifier.isPrivate(member.getModifiers());
    }

    public static void main(String[] args) {
        String state = "IllegalStateException";
        String argument = "IllegalArgumentException";
        String index = "IndexOutOfBoundsException";
        String text = "[int] [" + state + ", " + index + "]";
        TreeSet<String> wanted = new TreeSet<>(List.of(
            "boolean type [int] [" + argument + "]",
            "int compile [] []",
            "int why [] []",
            "int witness [] []",
            "int many [int] [" + argument + ", " + state + "]",
            "boolean isSource " + text,
            "boolean isView " + text,
            "int get " + text,
            "boolean keep " + text,
            "int put " + text,
            "int create " + text,
            "int from [int] []",
            "int key " + text,
            "int note [] [" + state + "]",
            "int differs [] [" + state + "]"));
        TreeSet<String> found = new TreeSet<>();
        TreeSet<String> privateNames = new TreeSet<>();
        for (Method method : TwoWayTexts.class.getDeclaredMethods()) {
            if (hidden(method)) {
                privateNames.add(method.getName());
                continue;
            }
            due("the modifier of " + method.getName(), method.getModifiers(), Modifier.PUBLIC);
            found.add(method.getReturnType().getSimpleName() + " " + method.getName() + " "
                + parameters(method.getParameterTypes()) + " " + exceptions(method.getExceptionTypes()));
        }
        due("the set of methods", found, wanted);
        for (Method method : TwoWayTexts.class.getDeclaredMethods()) {
            if (!hidden(method)) {
                due("a private method called " + method.getName(), privateNames.contains(method.getName()), false);
            }
        }

        TreeSet<String> constants = new TreeSet<>();
        for (Field field : TwoWayTexts.class.getDeclaredFields()) {
            if (!hidden(field)) {
                due("the modifier of " + field.getName(), field.getModifiers(),
                    Modifier.PUBLIC | Modifier.STATIC | Modifier.FINAL);
                constants.add(field.getType().getSimpleName() + " " + field.getName());
            }
            if (Modifier.isStatic(field.getModifiers())) {
                due("static " + field.getName() + " being final", Modifier.isFinal(field.getModifiers()), true);
            }
        }
        due("the set of constants", constants, new TreeSet<>(List.of("int LONG", "int NONE")));
        due("NONE", TwoWayTexts.NONE, -1);
        due("LONG", TwoWayTexts.LONG, -2);

        int constructors = 0;
        for (Constructor<?> one : TwoWayTexts.class.getDeclaredConstructors()) {
            constructors++;
            due("a constructor", Modifier.isPublic(one.getModifiers()) && one.getParameterCount() == 0, true);
        }
        due("the number of constructors", constructors, 1);
        due("the class's modifiers", TwoWayTexts.class.getModifiers(), Modifier.PUBLIC | Modifier.FINAL);

        System.out.println(wrong == 0 ? "the face is as due" : wrong + " faults of the face");
        if (wrong != 0) {
            System.exit(1);
        }
    }
}
