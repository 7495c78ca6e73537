import java.lang.reflect.Constructor;
import java.lang.reflect.Field;
import java.lang.reflect.Method;
import java.lang.reflect.Modifier;
import java.util.Set;
import java.util.TreeSet;

/** The public face is the document's, with nothing else to be seen from outside. */
public final class FaceTest {
    public static void main(String[] args) {
        Set<String> want = new TreeSet<>(Set.of("int feed int int int int int", "boolean end int", "int read",
                "int faultAt", "int size int", "int token int boolean", "int classAt int", "int member int",
                "int memberAt int", "int line int", "int lineAt int", "int instruction int"));
        Set<String> got = new TreeSet<>();
        for (Method method : BodyText.class.getDeclaredMethods()) {
            if (!Modifier.isPrivate(method.getModifiers())) {
                StringBuilder face = new StringBuilder(method.getReturnType() + " " + method.getName());
                for (Class<?> type : method.getParameterTypes()) {
                    face.append(' ').append(type);
                }
                got.add(face.toString());
                Check.due(method + " is public", true, Modifier.isPublic(method.getModifiers()));
            }
        }
        Check.due("methods " + got + " are " + want, true, got.equals(want));
        Constructor<?>[] constructors = BodyText.class.getDeclaredConstructors();
        Check.due("constructors", 1, constructors.length);
        Check.due("the constructor is public", true, Modifier.isPublic(constructors[0].getModifiers()));
        for (Field field : BodyText.class.getDeclaredFields()) {
            Check.due(field + " is private", true, Modifier.isPrivate(field.getModifiers()));
        }
        int modifiers = BodyText.class.getModifiers();
        Check.due("the class is public and final", true, Modifier.isPublic(modifiers) && Modifier.isFinal(modifiers));
        Check.finish();
    }
}
