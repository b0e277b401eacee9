import java.lang.reflect.Constructor;
import java.lang.reflect.Field;
import java.lang.reflect.Method;
import java.lang.reflect.Modifier;
import java.util.Arrays;
import java.util.Set;
import java.util.TreeSet;

/** The public face: every constant, constructor and method of the document, and no other. */
public final class FaceTest {
    private static final Set<String> METHODS = new TreeSet<>(Arrays.asList(
        "int put(int,int,int)", "int get(int,int,int)", "int retry(int,int)", "int status(int)", "int number(int)",
        "int value(int)", "int deliver(int,int)", "int waiting(int,int)", "boolean stop(int)", "int join()",
        "int tick()", "boolean adopt(int)", "int member(int)", "int epoch(int)", "int length(int)",
        "int settled(int)", "int version(int,int,int)", "int look(int,int,int)"));
    private static final Set<String> CONSTANTS = new TreeSet<>(Arrays.asList(
        "BAD -1", "BUSY -2", "IDLE -3", "LOST 0", "FULL 1", "TAKEN 2", "KNOWN 3", "SETTLED 4", "READ 5", "ASKED 6",
        "EMPTY 0", "UPDATE 1", "ACK 2", "QUERY 3", "ANSWER 4", "COPY 5"));

    private static Set<String> methods(Set<String> names, Set<String> privateNames) {
        Set<String> found = new TreeSet<>();
        for (Method m : ChainVersions.class.getDeclaredMethods()) {
            if (Modifier.isPrivate(m.getModifiers()) || m.isSynthetic()) {
                privateNames.add(m.getName());
                continue;
            }
            names.add(m.getName());
            StringBuilder text = new StringBuilder();
            text.append(m.getReturnType()).append(' ').append(m.getName()).append('(');
            for (int i = 0; i < m.getParameterCount(); i++) {
                text.append(i == 0 ? "" : ",").append(m.getParameterTypes()[i]);
            }
            found.add(text.append(')').toString());
        }
        return found;
    }

    private static Set<String> constants(Check check) throws IllegalAccessException {
        Set<String> found = new TreeSet<>();
        for (Field f : ChainVersions.class.getDeclaredFields()) {
            int modifiers = f.getModifiers();
            if (Modifier.isStatic(modifiers)) {
                check.due("final " + f.getName(), Modifier.isFinal(modifiers), true);
            }
            if (!Modifier.isPrivate(modifiers)) {
                check.due("public static " + f.getName(),
                    Modifier.isPublic(modifiers) && Modifier.isStatic(modifiers) && f.getType() == int.class, true);
                found.add(f.getName() + " " + f.getInt(null));
            }
        }
        return found;
    }

    public static void main(String[] args) throws IllegalAccessException {
        Check check = new Check("face");
        check.due("public final class", ChainVersions.class.getModifiers() & (Modifier.PUBLIC | Modifier.FINAL),
            Modifier.PUBLIC | Modifier.FINAL);
        Set<String> names = new TreeSet<>();
        Set<String> privateNames = new TreeSet<>();
        Set<String> methods = methods(names, privateNames);
        check.due("methods " + methods, methods.equals(METHODS), true);
        privateNames.retainAll(names);
        check.due("private methods with a public name " + privateNames, privateNames.isEmpty(), true);
        Set<String> constants = constants(check);
        check.due("constants " + constants, constants.equals(CONSTANTS), true);
        Constructor<?>[] constructors = ChainVersions.class.getDeclaredConstructors();
        check.due("constructors", constructors.length, 1);
        check.due("public constructor of an int", constructors[0].getParameterCount() == 1
            && constructors[0].getParameterTypes()[0] == int.class
            && Modifier.isPublic(constructors[0].getModifiers()), true);
        for (Class<?> inside : ChainVersions.class.getDeclaredClasses()) {
            int modifiers = inside.getModifiers();
            check.due("class inside " + inside.getName(), Modifier.isStatic(modifiers)
                && !Modifier.isPublic(modifiers) && !Modifier.isProtected(modifiers), true);
        }
        check.end();
    }
}
