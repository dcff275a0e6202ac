import java.lang.reflect.Constructor;
import java.lang.reflect.Field;
import java.lang.reflect.Method;
import java.lang.reflect.Modifier;
import java.util.Arrays;
import java.util.Set;
import java.util.TreeSet;

/** The public face is that of the document, and nothing beside it can be seen. */
public final class FaceTest {
    private static final Check CHECK = new Check();
    private static final Set<String> DUE = new TreeSet<>(Arrays.asList(
        "int curve(int, int, int) throws IllegalArgumentException, IllegalStateException",
        "void rates(int, int, int, int) throws IllegalArgumentException",
        "void cell(int, int, int) throws IllegalArgumentException, IllegalStateException",
        "int table(int, int) throws IllegalArgumentException, IllegalStateException",
        "int full(int) throws IllegalArgumentException",
        "void films(int, int) throws IllegalArgumentException",
        "void outside(int, int, int, int, int) throws IllegalArgumentException",
        "void inside(int, int, int) throws IllegalArgumentException",
        "int water(int, int) throws IllegalArgumentException",
        "int leak(int, int) throws IllegalArgumentException",
        "int growth(int, int, int, int) throws IllegalArgumentException, IllegalStateException",
        "int run(int) throws IllegalArgumentException, IllegalStateException",
        "int told(int, int) throws IllegalArgumentException",
        "long balance(int) throws IllegalArgumentException",
        "int mould()",
        "int order(int, int) throws IllegalArgumentException, IllegalStateException"));

    public static void main(String[] args) {
        CHECK.same("the class", WallDamp.class.getModifiers(), Modifier.PUBLIC | Modifier.FINAL);
        methods();
        fields();
        Constructor<?>[] made = WallDamp.class.getDeclaredConstructors();
        CHECK.same("constructors", made.length, 1);
        CHECK.holds("the constructor", made[0].toString().equals("public WallDamp(int)"));
        innerClasses();
        CHECK.end();
    }

    private static void methods() {
        Set<String> got = new TreeSet<>();
        Set<String> faceNames = new TreeSet<>();
        for (Method method : WallDamp.class.getDeclaredMethods()) {
            if (!Modifier.isPrivate(method.getModifiers())) {
                got.add(told(method));
                faceNames.add(method.getName());
                CHECK.same(method.getName() + " is public alone", method.getModifiers(), Modifier.PUBLIC);
            }
        }
        CHECK.holds("the methods: " + got, got.equals(DUE));
        for (Method method : WallDamp.class.getDeclaredMethods()) {
            boolean hidden = Modifier.isPrivate(method.getModifiers());
            CHECK.holds("a private name of its own: " + method, !hidden || !faceNames.contains(method.getName()));
        }
    }

    private static String told(Method method) {
        StringBuilder text = new StringBuilder();
        text.append(method.getReturnType().getSimpleName()).append(' ').append(method.getName()).append('(');
        String separator = "";
        for (Class<?> type : method.getParameterTypes()) {
            text.append(separator).append(type.getSimpleName());
            separator = ", ";
        }
        text.append(')');
        separator = " throws ";
        for (Class<?> type : method.getExceptionTypes()) {
            text.append(separator).append(type.getSimpleName());
            separator = ", ";
        }
        return text.toString();
    }

    private static void fields() {
        int seen = 0;
        for (Field field : WallDamp.class.getDeclaredFields()) {
            if (!Modifier.isPrivate(field.getModifiers())) {
                seen++;
                CHECK.holds("field " + field, field.toString().equals("public static final int WallDamp.NONE"));
            }
        }
        CHECK.same("fields that can be seen", seen, 1);
    }

    private static void innerClasses() {
        Class<?>[] inner = WallDamp.class.getDeclaredClasses();
        CHECK.holds("some twelve classes at most", inner.length <= 11);
        for (Class<?> one : inner) {
            CHECK.holds(one + " is static", Modifier.isStatic(one.getModifiers()));
            CHECK.holds(one + " is hidden", !Modifier.isPublic(one.getModifiers()) && !Modifier.isProtected(one.getModifiers()));
            ownFields(one);
        }
        ownFields(WallDamp.class);
    }

    private static void ownFields(Class<?> one) {
        int own = 0;
        for (Field field : one.getDeclaredFields()) {
            boolean shared = Modifier.isStatic(field.getModifiers());
            CHECK.holds(field + " is no static state", !shared || Modifier.isFinal(field.getModifiers()));
            own += shared ? 0 : 1;
        }
        CHECK.holds(one + " has some twenty fields at most", own <= 20);
    }
}
