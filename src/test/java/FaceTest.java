import java.lang.reflect.Constructor;
import java.lang.reflect.Field;
import java.lang.reflect.Method;
import java.lang.reflect.Modifier;
import java.util.Set;
import java.util.TreeSet;

/** The public face: the members that the document tells, and no others that can be seen. */
public final class FaceTest {
    private static final Set<String> METHODS = Set.of(
            "int rule(int)", "int scale(boolean,int,int,boolean)", "int place(int,int)", "int span(int,int,int,int)",
            "int mark(int,int)", "int marks(int)", "int closest(int,int)", "int off(int)", "int set(int,int,int,int)",
            "int against(int,int,int)", "int nearest(int,int)", "int between(int,int)", "int factor(int)",
            "int clear()", "int chain(int)", "int pairs(int,int,int,int)", "int fewest(int,int,int)",
            "int setting(int,int,int,int)", "int cut(int,int)", "int wipe(int)", "int chosen(int,int,int)",
            "int match(int)", "int law(int,int)", "int doubled(int)", "int count(int)", "long digest()");
    private static final Set<String> CONSTANTS = Set.of("NONE", "BAD", "NO", "FULL", "FAR");

    public static void main(String[] args) {
        Class<?> face = SlideRules.class;
        Check.that("the class is public and final", face.getModifiers() == (Modifier.PUBLIC | Modifier.FINAL));
        methods(face);
        constants(face);
        Constructor<?>[] constructors = face.getDeclaredConstructors();
        Check.due("constructors", constructors.length, 1);
        Check.that("the constructor is public", constructors[0].getModifiers() == Modifier.PUBLIC);
        Check.due("its arguments", constructors[0].getParameterCount(), 0);
        for (Class<?> inside : face.getDeclaredClasses()) {
            Check.that(inside + " is static", Modifier.isStatic(inside.getModifiers()));
            Check.that(inside + " is not public", !Modifier.isPublic(inside.getModifiers()));
            for (Method method : inside.getDeclaredMethods()) {
                Check.that(method + " has a name of its own", !isPublicName(method.getName()));
            }
        }
        Check.end();
    }

    private static boolean isPublicName(String name) {
        return METHODS.stream().anyMatch(told -> told.contains(" " + name + "("));
    }

    private static void methods(Class<?> face) {
        Set<String> seen = new TreeSet<>();
        for (Method method : face.getDeclaredMethods()) {
            if (Modifier.isPrivate(method.getModifiers()) || method.isSynthetic()) {
                Check.that(method + " has a name of its own", !isPublicName(method.getName()));
            } else {
                StringBuilder text = new StringBuilder(method.getReturnType() + " " + method.getName() + "(");
                for (Class<?> type : method.getParameterTypes()) {
                    text.append(text.charAt(text.length() - 1) == '(' ? "" : ",").append(type);
                }
                seen.add(text.append(")").toString());
                Check.that(method + " is public, not static", method.getModifiers() == Modifier.PUBLIC);
            }
        }
        Check.that("the methods are " + METHODS + ", not " + seen, seen.equals(METHODS));
    }

    private static void constants(Class<?> face) {
        Set<String> seen = new TreeSet<>();
        for (Field field : face.getDeclaredFields()) {
            if (!Modifier.isPrivate(field.getModifiers())) {
                seen.add(field.getName());
                int want = Modifier.PUBLIC | Modifier.STATIC | Modifier.FINAL;
                Check.that(field + " is a constant", field.getModifiers() == want && field.getType() == int.class);
            } else {
                boolean kept = !Modifier.isStatic(field.getModifiers()) || Modifier.isFinal(field.getModifiers());
                Check.that(field + " is no static state", kept);
            }
        }
        Check.that("the constants are " + CONSTANTS + ", not " + seen, seen.equals(CONSTANTS));
    }
}
