import java.lang.reflect.Constructor;
import java.lang.reflect.Field;
import java.lang.reflect.Method;
import java.lang.reflect.Modifier;
import java.util.NoSuchElementException;
import java.util.Set;
import java.util.TreeSet;

/** The public face: what the document has, and nothing else that is visible. */
final class FaceTest {
    private static final String[] METHODS = {
        "int feed(int,int,int,int,int)", "int end(int)", "boolean on(int,int)", "boolean off(int,boolean)",
        "boolean claim(int)", "int service(int,int)", "int ask(int,int)", "boolean close(int,int)",
        "int go(int)", "void split(int)", "void join()", "boolean lose(int,int)", "int give(int)",
        "int look(int,int)", "int sign(int,int)", "int answers(int,int)", "int found(int,int,int,int)",
        "int entry(int,int,int)", "int count(int)", "int holders(int)", "int sent(int)",
    };

    public static void main(String[] args) {
        Check check = new Check("FaceTest");
        Class<?> face = CableNames.class;
        check.yes("the class is public", Modifier.isPublic(face.getModifiers()));
        check.yes("the class is final", Modifier.isFinal(face.getModifiers()));
        check.same("NONE", CableNames.NONE, -1);

        Set<String> due = new TreeSet<>(Set.of(METHODS));
        Set<String> names = new TreeSet<>();
        for (Method method : face.getDeclaredMethods()) {
            if (Modifier.isPrivate(method.getModifiers())) {
                continue;
            }
            names.add(method.getName());
            check.yes("in the document: " + written(method), due.remove(written(method)));
            check.yes("public: " + method, Modifier.isPublic(method.getModifiers()));
        }
        check.same("methods of the document that are missing " + due, due.size(), 0);
        lookAtThrows(check, face);
        lookAtNone(check, face);
        for (Method method : face.getDeclaredMethods()) {
            if (Modifier.isPrivate(method.getModifiers())) {
                check.no("a private method has a public one's name: " + method, names.contains(method.getName()));
            }
        }
        for (Field field : face.getDeclaredFields()) {
            check.yes("visible: " + field, Modifier.isPrivate(field.getModifiers()) || field.getName().equals("NONE"));
            boolean isStatic = Modifier.isStatic(field.getModifiers());
            check.yes("static and not final: " + field, !isStatic || Modifier.isFinal(field.getModifiers()));
        }
        for (Class<?> inside : face.getDeclaredClasses()) {
            check.yes("static: " + inside, Modifier.isStatic(inside.getModifiers()));
            check.no("public: " + inside, Modifier.isPublic(inside.getModifiers()));
        }
        Constructor<?>[] made = face.getDeclaredConstructors();
        check.same("constructors", made.length, 1);
        check.yes("the constructor is public", Modifier.isPublic(made[0].getModifiers()));
        check.same("the constructor's arguments", made[0].getParameterCount(), 0);
        check.done();
    }

    private static void lookAtThrows(Check check, Class<?> face) {
        for (Method method : face.getDeclaredMethods()) {
            Set<Class<?>> told = Set.of(method.getExceptionTypes());
            Set<Class<?>> due = method.getName().equals("look")
                ? Set.of(IndexOutOfBoundsException.class, NoSuchElementException.class) : Set.of();
            check.yes("says just what it throws: " + method, told.equals(due));
        }
    }

    private static void lookAtNone(Check check, Class<?> face) {
        int open = Modifier.PUBLIC | Modifier.STATIC | Modifier.FINAL;
        int found = 0;
        for (Field field : face.getDeclaredFields()) {
            if (field.getName().equals("NONE") && field.getModifiers() == open && field.getType() == int.class) {
                found++;
            }
        }
        check.same("public static final int NONE", found, 1);
    }

    private static String written(Method method) {
        StringBuilder text = new StringBuilder(method.getReturnType().getName());
        text.append(' ').append(method.getName()).append('(');
        String comma = "";
        for (Class<?> type : method.getParameterTypes()) {
            text.append(comma).append(type.getName());
            comma = ",";
        }
        return text.append(')').toString();
    }
}
