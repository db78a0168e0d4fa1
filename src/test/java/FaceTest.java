import java.lang.reflect.Constructor;
import java.lang.reflect.Field;
import java.lang.reflect.Method;
import java.lang.reflect.Modifier;
import java.util.Set;
import java.util.TreeSet;

/** The public face: the class, its constants and its methods, and no more (LANGUAGE.md, rule 1). */
public final class FaceTest {
    private static final String[] METHODS = {
        "read(int,int)", "write(int,int,int)", "drop(int,int)", "forget(int)", "set(int,int)", "type(char)",
        "clearText()", "perform()", "stopped(int)", "undo()", "keep()", "restore()", "core(int,int)",
        "held(int,int,int)", "counter(int,int)", "bit(int,int)", "line(int,int)", "reason(int,int)",
        "cost(int,int,boolean,int)", "vain(int)", "worst()", "count(int)"
    };
    private static final String[] CONSTANTS = {"UNKNOWN=-1", "BAD_VALUE=-2", "FULL=-3", "NOT_POSSIBLE=-4", "NONE=-5"};

    public static void main(String[] args) throws IllegalAccessException {
        Due due = new Due("FaceTest");
        Class<?> face = SnoopFilter.class;
        due.holds("the class is public and final", Modifier.isPublic(face.getModifiers()) && Modifier.isFinal(face.getModifiers()));
        due.holds("its methods are those of the document: " + methods(face), methods(face).equals(Set.of(METHODS)));
        due.holds("its constants are those of the document: " + constants(face), constants(face).equals(Set.of(CONSTANTS)));
        Constructor<?>[] constructors = face.getDeclaredConstructors();
        due.is("constructors", constructors.length, 1);
        due.holds("it is public", Modifier.isPublic(constructors[0].getModifiers()));
        due.is("its parameters", constructors[0].getParameterCount(), 0);
        for (Class<?> inner : face.getDeclaredClasses()) {
            due.holds(inner + " is private and static", Modifier.isPrivate(inner.getModifiers()) && Modifier.isStatic(inner.getModifiers()));
        }
        for (Method method : face.getDeclaredMethods()) {
            if (Modifier.isPublic(method.getModifiers())) {
                due.holds(method + " answers an int", method.getReturnType() == int.class && !Modifier.isStatic(method.getModifiers()));
            }
        }
        due.close();
    }

    private static Set<String> methods(Class<?> face) {
        Set<String> found = new TreeSet<>();
        for (Method method : face.getDeclaredMethods()) {
            if (!Modifier.isPrivate(method.getModifiers()) && !method.isSynthetic()) {
                StringBuilder sign = new StringBuilder(method.getName()).append('(');
                for (Class<?> type : method.getParameterTypes()) {
                    sign.append(sign.charAt(sign.length() - 1) == '(' ? "" : ",").append(type.getName());
                }
                found.add(sign.append(')').toString());
            }
        }
        return found;
    }

    private static Set<String> constants(Class<?> face) throws IllegalAccessException {
        Set<String> found = new TreeSet<>();
        for (Field field : face.getDeclaredFields()) {
            if (!Modifier.isPrivate(field.getModifiers())) {
                found.add(field.getName() + "=" + field.get(null));
            }
        }
        return found;
    }
}
