import java.lang.reflect.Constructor;
import java.lang.reflect.Field;
import java.lang.reflect.Method;
import java.lang.reflect.Modifier;
import java.util.Arrays;
import java.util.TreeSet;

/** The public face of the document, and nothing beside it that another class could see. */
final class FaceTest {
    private static final Check CHECK = new Check();

    private static final String[] METHODS = {
        "void blank()", "boolean copy(int)", "boolean set(int,int)", "boolean implement(int)",
        "boolean field(int,int,int)", "boolean method(int,int)", "boolean choose(int)",
        "boolean code(int,int,int)", "int load()", "int transformer(int,int,int,boolean)",
        "boolean remove(int)", "boolean queue(int)", "int swap()", "int repeat(int)",
        "boolean start(int,int,int)", "int step(int,int)", "int frame(int,int)",
        "int result(int)", "int edition(int)", "int kept(int)"
    };

    public static void main(String[] args) {
        Class<HotEditions> face = HotEditions.class;
        CHECK.yes("public", Modifier.isPublic(face.getModifiers()));
        CHECK.yes("final", Modifier.isFinal(face.getModifiers()));
        methods(face);
        fields(face);
        Constructor<?>[] constructors = face.getDeclaredConstructors();
        CHECK.same("constructors", constructors.length, 1);
        CHECK.yes("public constructor", Modifier.isPublic(constructors[0].getModifiers()));
        CHECK.same("its parameters", constructors[0].getParameterCount(), 0);
        for (Class<?> inside : face.getDeclaredClasses()) {
            CHECK.yes(inside + " is static", Modifier.isStatic(inside.getModifiers()));
            CHECK.no(inside + " is public", Modifier.isPublic(inside.getModifiers()));
        }
        CHECK.end();
    }

    private static void methods(Class<?> face) {
        TreeSet<String> visible = new TreeSet<>();
        TreeSet<String> publicNames = new TreeSet<>();
        for (Method method : face.getDeclaredMethods()) {
            if (Modifier.isPublic(method.getModifiers())) {
                publicNames.add(method.getName());
            }
        }
        for (Method method : face.getDeclaredMethods()) {
            if (!Modifier.isPrivate(method.getModifiers())) {
                visible.add(text(method));
            } else {
                CHECK.no(method + " bears a public name", publicNames.contains(method.getName()));
            }
        }
        TreeSet<String> due = new TreeSet<>(Arrays.asList(METHODS));
        CHECK.yes("methods " + visible, visible.equals(due));
    }

    private static String text(Method method) {
        StringBuilder text = new StringBuilder();
        text.append(method.getReturnType()).append(' ').append(method.getName()).append('(');
        String comma = "";
        for (Class<?> type : method.getParameterTypes()) {
            text.append(comma).append(type);
            comma = ",";
        }
        return text.append(')').toString();
    }

    private static void fields(Class<?> face) {
        for (Field field : face.getDeclaredFields()) {
            boolean isNone = field.getName().equals("NONE");
            CHECK.yes(field + " is private or NONE",
                    isNone || Modifier.isPrivate(field.getModifiers()));
            CHECK.yes(field + " is final if it is static",
                    !Modifier.isStatic(field.getModifiers())
                            || Modifier.isFinal(field.getModifiers()));
        }
    }
}
