import java.lang.reflect.Constructor;
import java.lang.reflect.Field;
import java.lang.reflect.Method;
import java.lang.reflect.Modifier;
import java.util.Arrays;
import java.util.HashSet;
import java.util.Set;
import java.util.TreeSet;

/** The public face of the document, and nothing else that can be seen from outside. */
public final class FaceTest {
    private static final String[] METHODS = {
        "int letter(int)", "int blank()", "int fault()", "int table()", "int turn()",
        "int text()", "int mark(int)", "int drop(int)", "int rule(int,int)",
        "int sign(int,int,int)", "int ink(int)", "int back(int)", "int backAt(int)",
        "int ways()", "int first(int)", "int clash(int)", "int clashAt(int)",
        "int clashing(int,int)", "int ahead(int)", "int aheadAt(int,int)", "int parting(int)",
        "int trial(int,int,int)", "int count(int)", "long digest()"};
    private static final String[] CONSTANTS = {
        "NONE=-1", "UNKNOWN=-101", "OUTSIDE=-102", "STATE=-103", "FULL=-104"};

    private static int wrong = 0;

    private static void say(String what) {
        wrong++;
        System.out.println(what);
    }

    private static String inWords(Method method) {
        StringBuilder words = new StringBuilder(method.getReturnType().getName());
        words.append(' ').append(method.getName()).append('(');
        String between = "";
        for (Class<?> type : method.getParameterTypes()) {
            words.append(between).append(type.getName());
            between = ",";
        }
        return words.append(')').toString();
    }

    private static void methods() {
        Set<String> visible = new TreeSet<>();
        Set<String> names = new HashSet<>();
        for (Method method : SpellTables.class.getDeclaredMethods()) {
            if (Modifier.isPublic(method.getModifiers())) {
                visible.add(inWords(method));
                names.add(method.getName());
                if (Modifier.isStatic(method.getModifiers())) say(method + " is static");
            } else if (!Modifier.isPrivate(method.getModifiers())) {
                say(method + " can be seen");
            }
        }
        if (!visible.equals(new TreeSet<>(Arrays.asList(METHODS)))) {
            say("the public methods are " + visible);
        }
        for (Method method : SpellTables.class.getDeclaredMethods()) {
            if (Modifier.isPrivate(method.getModifiers()) && names.contains(method.getName())) {
                say(method + " bears the name of a public one");
            }
        }
    }

    private static void fields() throws IllegalAccessException {
        Set<String> visible = new TreeSet<>();
        for (Field field : SpellTables.class.getDeclaredFields()) {
            int kind = field.getModifiers();
            if (Modifier.isPublic(kind) && Modifier.isStatic(kind) && Modifier.isFinal(kind)) {
                visible.add(field.getName() + "=" + field.getInt(null));
            } else if (!Modifier.isPrivate(kind)) {
                say(field + " can be seen");
            }
            if (Modifier.isStatic(kind) && !Modifier.isFinal(kind)) say(field + " can change");
        }
        if (!visible.equals(new TreeSet<>(Arrays.asList(CONSTANTS)))) {
            say("the constants are " + visible);
        }
    }

    private static void classes() {
        if (!Modifier.isFinal(SpellTables.class.getModifiers())) say("the class is not final");
        Constructor<?>[] constructors = SpellTables.class.getDeclaredConstructors();
        if (constructors.length != 1 || !Modifier.isPublic(constructors[0].getModifiers())
                || constructors[0].getParameterCount() != 0) {
            say("the constructors are " + Arrays.toString(constructors));
        }
        Class<?>[] inside = SpellTables.class.getDeclaredClasses();
        if (inside.length > 11) say(inside.length + " classes inside");
        for (Class<?> one : inside) {
            int kind = one.getModifiers();
            if (!Modifier.isStatic(kind)) say(one + " is not static");
            if (Modifier.isPublic(kind) || Modifier.isProtected(kind)) say(one + " can be seen");
        }
    }

    public static void main(String[] args) throws IllegalAccessException {
        methods();
        fields();
        classes();
        System.out.println(wrong == 0 ? "the face is the document's" : wrong + " faults of face");
        if (wrong != 0) System.exit(1);
    }
}
