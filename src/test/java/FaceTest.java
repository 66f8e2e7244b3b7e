import java.lang.reflect.Constructor;
import java.lang.reflect.Field;
import java.lang.reflect.Method;
import java.lang.reflect.Modifier;
import java.util.Set;
import java.util.TreeSet;

/** The public face is that of the document, and nothing beside it can be seen. */
public final class FaceTest {
    private static final Set<String> METHODS = Set.of(
        "int type(long,int)", "int clear()", "int read(int)", "int about(int,int)", "int balance(int,int)",
        "int letter(int,int)", "int alike(int,int,int)", "int add(int)", "int wipe()", "int is(int,int)",
        "int proofs(int,int)", "int meanings(int,int)", "int heads(int,int)", "int word(int,int)",
        "int say(int)", "int hush()", "int reads(int,int,int)", "int first(int,int,int)",
        "int rows(int,int,int)", "int near(int,int,int)", "int count(int)");
    private static final Set<String> CONSTANTS = Set.of("BAD", "STATE", "FULL", "NONE", "NO");

    public static void main(String[] args) {
        Class<?> face = SlashKinds.class;
        Check.holds("the class is public and final",
            Modifier.isPublic(face.getModifiers()) && Modifier.isFinal(face.getModifiers()));
        Check.holds("no interface, no class above it",
            face.getInterfaces().length == 0 && face.getSuperclass() == Object.class);
        methods(face);
        fields(face);
        Constructor<?>[] constructors = face.getDeclaredConstructors();
        Check.holds("one public constructor without arguments", constructors.length == 1
            && constructors[0].getParameterCount() == 0 && Modifier.isPublic(constructors[0].getModifiers()));
        for (Class<?> inside : face.getDeclaredClasses()) {
            Check.holds(inside + " is static and not public", Modifier.isStatic(inside.getModifiers())
                && !Modifier.isPublic(inside.getModifiers()) && !Modifier.isProtected(inside.getModifiers()));
        }
        Check.end("FaceTest");
    }

    private static void methods(Class<?> face) {
        Set<String> seen = new TreeSet<>();
        Set<String> names = new TreeSet<>();
        for (String method : METHODS) {
            names.add(method.substring(4, method.indexOf('(')));
        }
        for (Method method : face.getDeclaredMethods()) {
            if (method.isSynthetic()) {
                continue;
            }
            if (Modifier.isPrivate(method.getModifiers())) {
                Check.holds("private " + method.getName() + " has a name of its own", !names.contains(method.getName()));
                continue;
            }
            StringBuilder told = new StringBuilder(method.getReturnType() + " " + method.getName() + "(");
            for (Class<?> type : method.getParameterTypes()) {
                told.append(told.charAt(told.length() - 1) == '(' ? "" : ",").append(type);
            }
            seen.add(told + ")");
            Check.holds(method + " is public, not static",
                Modifier.isPublic(method.getModifiers()) && !Modifier.isStatic(method.getModifiers()));
        }
        Check.holds("the methods are those of the document: " + seen, seen.equals(new TreeSet<>(METHODS)));
    }

    private static void fields(Class<?> face) {
        Set<String> seen = new TreeSet<>();
        for (Field field : face.getDeclaredFields()) {
            int how = field.getModifiers();
            if (field.isSynthetic()) {
                continue;
            }
            Check.holds(field + " is final, if it is static", !Modifier.isStatic(how) || Modifier.isFinal(how));
            if (!Modifier.isPrivate(how)) {
                seen.add(field.getName());
                Check.holds(field + " is a public int constant", Modifier.isPublic(how) && Modifier.isStatic(how)
                    && Modifier.isFinal(how) && field.getType() == int.class);
            }
        }
        Check.holds("the constants are those of the document: " + seen, seen.equals(new TreeSet<>(CONSTANTS)));
    }
}
