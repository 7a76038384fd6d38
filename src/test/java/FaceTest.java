import java.lang.reflect.Constructor;
import java.lang.reflect.Field;
import java.lang.reflect.Method;
import java.lang.reflect.Modifier;
import java.util.Set;
import java.util.TreeSet;

/** The class shows the document's face and nothing else (LANGUAGE.md, rules 1 and 5). */
public final class FaceTest {
    private static final Set<String> FACE = Set.of(
            "int ask(int, int, int)",
            "int route(int, int)",
            "int router()",
            "int start(int, int)",
            "int promise(int, int, boolean)",
            "int accept(int, int, boolean)",
            "int tell(int, int)",
            "boolean crash(int)",
            "boolean restart(int)",
            "int retire(int)",
            "int look(int, int)",
            "int value(int, int)",
            "int promised(int, int, int)",
            "int vote(int, int, int)",
            "int known(int, int)",
            "int reply(int)",
            "int heard(int)");

    private static int wrong = 0;

    private FaceTest() {
    }

    public static void main(String[] args) {
        checkClass();
        checkConstructors();
        checkMethods();
        checkFields();
        checkNames();
        System.out.println(wrong == 0 ? "the face is as due" : wrong + " faults in the face");
        if (wrong != 0) {
            System.exit(1);
        }
    }

    private static void fault(String text) {
        wrong++;
        System.out.println(text);
    }

    private static void checkClass() {
        int modifiers = SealedChain.class.getModifiers();
        if (!Modifier.isPublic(modifiers) || !Modifier.isFinal(modifiers)) {
            fault("the class is not public and final");
        }
        for (Class<?> inside : SealedChain.class.getDeclaredClasses()) {
            int inner = inside.getModifiers();
            if (Modifier.isPublic(inner) || Modifier.isProtected(inner) || !Modifier.isStatic(inner)) {
                fault(inside.getName() + " is public, protected or not static");
            }
        }
    }

    private static void checkConstructors() {
        Constructor<?>[] all = SealedChain.class.getDeclaredConstructors();
        if (all.length != 1 || all[0].getParameterCount() != 0 || !Modifier.isPublic(all[0].getModifiers())) {
            fault("the constructors are not the document's");
        }
    }

    private static void checkMethods() {
        Set<String> shown = new TreeSet<>();
        for (Method method : SealedChain.class.getDeclaredMethods()) {
            if (!Modifier.isPrivate(method.getModifiers()) && !method.isSynthetic()) {
                shown.add(signature(method));
                if (!Modifier.isPublic(method.getModifiers()) || Modifier.isStatic(method.getModifiers())) {
                    fault(signature(method) + " is not a public method of the object");
                }
            }
        }
        if (!shown.equals(new TreeSet<>(FACE))) {
            fault("the methods shown are " + shown);
        }
    }

    private static String signature(Method method) {
        StringBuilder text = new StringBuilder();
        text.append(method.getReturnType().getSimpleName()).append(' ').append(method.getName()).append('(');
        String comma = "";
        for (Class<?> type : method.getParameterTypes()) {
            text.append(comma).append(type.getSimpleName());
            comma = ", ";
        }
        return text.append(')').toString();
    }

    private static void checkFields() {
        for (Field field : SealedChain.class.getDeclaredFields()) {
            int modifiers = field.getModifiers();
            if (!Modifier.isPrivate(modifiers)) {
                fault("field " + field.getName() + " is not private");
            }
            if (Modifier.isStatic(modifiers) && !Modifier.isFinal(modifiers)) {
                fault("static field " + field.getName() + " is not final");
            }
        }
    }

    private static void checkNames() {
        Set<String> taken = new TreeSet<>();
        for (String signature : FACE) {
            taken.add(signature.substring(signature.indexOf(' ') + 1, signature.indexOf('(')));
        }
        for (Method method : SealedChain.class.getDeclaredMethods()) {
            checkPrivateName(method, taken);
        }
        for (Class<?> inside : SealedChain.class.getDeclaredClasses()) {
            for (Method method : inside.getDeclaredMethods()) {
                checkPrivateName(method, taken);
            }
        }
    }

    private static void checkPrivateName(Method method, Set<String> taken) {
        if (Modifier.isPrivate(method.getModifiers()) && taken.contains(method.getName())) {
            fault("private method " + method.getName() + " bears the name of a public one");
        }
    }
}
