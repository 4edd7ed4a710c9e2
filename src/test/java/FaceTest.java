import java.lang.reflect.Constructor;
import java.lang.reflect.Field;
import java.lang.reflect.Member;
import java.lang.reflect.Method;
import java.lang.reflect.Modifier;
import java.util.Arrays;
import java.util.NoSuchElementException;
import java.util.TreeSet;

/** The public face is the document's and no more; no class holds static state that can change. */
public final class FaceTest {
    private static final String[] METHODS = {
        "boolean clear(int)",
        "boolean end(int)",
        "boolean feed(int,int,int,int,int)",
        "int ask(int,int,int,int)",
        "int compose()",
        "int fault()",
        "int put(int,int,int,int,int,int,int)",
        "int read(int)",
        "int size(int)",
        "int textAt(int)",
        "int write(int)",
    };

    public static void main(String[] args) throws NoSuchMethodException {
        Check check = new Check("FaceTest");
        Class<?> face = MappingDesk.class;
        check.due("public and final", Modifier.isPublic(face.getModifiers()) && Modifier.isFinal(face.getModifiers()),
                true);
        check.due("NONE", MappingDesk.NONE, -1);

        TreeSet<String> methods = new TreeSet<>();
        TreeSet<String> hidden = new TreeSet<>();
        for (Method method : face.getDeclaredMethods()) {
            String parameters = Arrays.toString(method.getParameterTypes()).replaceAll("[\\[\\] ]", "");
            if (isOpen(method)) {
                methods.add(method.getReturnType() + " " + method.getName() + "(" + parameters + ")");
            } else {
                hidden.add(method.getName());
            }
        }
        check.due("methods", methods.toString(), new TreeSet<>(Arrays.asList(METHODS)).toString());
        for (String method : METHODS) {
            String name = method.substring(method.indexOf(' ') + 1, method.indexOf('('));
            check.due("a private method is named " + name, hidden.contains(name), false);
        }
        Class<?>[] thrown = face.getDeclaredMethod("textAt", int.class).getExceptionTypes();
        check.due("textAt names NoSuchElementException", thrown.length == 1
                && thrown[0] == NoSuchElementException.class, true);

        StringBuilder fields = new StringBuilder();
        for (Field field : face.getDeclaredFields()) {
            fields.append(isOpen(field) ? field.getName() : "");
        }
        check.due("fields", fields.toString(), "NONE");

        Constructor<?>[] constructors = face.getDeclaredConstructors();
        check.due("constructors", constructors.length, 1);
        check.due("constructor is public", Modifier.isPublic(constructors[0].getModifiers()), true);
        check.due("constructor's parameters", constructors[0].getParameterCount(), 0);

        checkStaticFields(check, face);
        for (Class<?> inside : face.getDeclaredClasses()) {
            check.due(inside + " is hidden and static", !Modifier.isPublic(inside.getModifiers())
                    && !Modifier.isProtected(inside.getModifiers()) && Modifier.isStatic(inside.getModifiers()), true);
            checkStaticFields(check, inside);
        }
        check.finish();
    }

    private static boolean isOpen(Member member) {
        return !Modifier.isPrivate(member.getModifiers()) && !member.isSynthetic();
    }

    private static void checkStaticFields(Check check, Class<?> holder) {
        for (Field field : holder.getDeclaredFields()) {
            if (Modifier.isStatic(field.getModifiers())) {
                check.due(field + " is final", Modifier.isFinal(field.getModifiers()), true);
            }
        }
    }
}
