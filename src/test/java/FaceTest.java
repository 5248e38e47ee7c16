import java.io.IOException;
import java.lang.reflect.Constructor;
import java.lang.reflect.Field;
import java.lang.reflect.Method;
import java.lang.reflect.Modifier;
import java.util.Arrays;
import java.util.TreeSet;

/** The public face of the document, and nothing beside it that another class could see. */
final class FaceTest {
    private static final Class<HotEditions> FACE = HotEditions.class;

    private static final String[] METHODS = {
        "void blank()", "boolean copy(int)", "boolean set(int,int)", "boolean implement(int)",
        "boolean field(int,int,int)", "boolean method(int,int)", "boolean choose(int)",
        "boolean code(int,int,int)", "int load()", "int transformer(int,int,int,boolean)",
        "boolean remove(int)", "boolean queue(int)", "int swap()", "int repeat(int)",
        "boolean start(int,int,int)", "int step(int,int)", "int frame(int,int)",
        "int result(int)", "int edition(int)", "int kept(int)"
    };

    public static void main(String[] args) {
        Cases.run(FaceTest.class);
    }

    /** The list above stands for the document's where there is no document. */
    static void listAboveIsThatOfTheDocument(Check check) throws IOException {
        TreeSet<String> due = new TreeSet<>();
        due.add("public static final int NONE = -1");
        due.add("public HotEditions()");
        for (String method : METHODS) {
            due.add("public " + method);
        }
        check.same("face", due.toString(), Document.isThere() ? Document.face().toString()
                : due.toString());
    }

    static void classIsPublicAndFinal(Check check) {
        check.yes("public", Modifier.isPublic(FACE.getModifiers()));
        check.yes("final", Modifier.isFinal(FACE.getModifiers()));
    }

    static void oneConstructor(Check check) {
        Constructor<?>[] constructors = FACE.getDeclaredConstructors();
        check.same("constructors", constructors.length, 1);
        check.yes("public", Modifier.isPublic(constructors[0].getModifiers()));
        check.same("parameters", constructors[0].getParameterCount(), 0);
    }

    static void classesInsideAreHidden(Check check) {
        for (Class<?> inside : FACE.getDeclaredClasses()) {
            check.yes(inside + " is static", Modifier.isStatic(inside.getModifiers()));
            check.no(inside + " is public", Modifier.isPublic(inside.getModifiers()));
        }
    }

    static void noneIsMinusOne(Check check) {
        check.same("NONE", HotEditions.NONE, -1);
    }

    static void visibleMethodsAreThoseOfTheDocument(Check check) {
        TreeSet<String> visible = new TreeSet<>();
        for (Method method : FACE.getDeclaredMethods()) {
            if (!Modifier.isPrivate(method.getModifiers())) {
                visible.add(text(method));
            }
        }
        check.same("methods", visible.toString(), new TreeSet<>(Arrays.asList(METHODS)).toString());
    }

    static void noPrivateMethodBearsAPublicName(Check check) {
        TreeSet<String> publicNames = new TreeSet<>();
        for (String method : METHODS) {
            publicNames.add(method.substring(method.indexOf(' ') + 1, method.indexOf('(')));
        }
        for (Method method : FACE.getDeclaredMethods()) {
            check.yes(method.toString(), Modifier.isPublic(method.getModifiers())
                    || !publicNames.contains(method.getName()));
        }
    }

    static void fieldsArePrivateOrNone(Check check) {
        for (Field field : FACE.getDeclaredFields()) {
            check.yes(field.toString(), field.getName().equals("NONE")
                    || Modifier.isPrivate(field.getModifiers()));
        }
    }

    static void staticFieldsAreFinal(Check check) {
        for (Field field : FACE.getDeclaredFields()) {
            check.yes(field.toString(), !Modifier.isStatic(field.getModifiers())
                    || Modifier.isFinal(field.getModifiers()));
        }
    }

    private static String text(Method method) {
        StringBuilder text = new StringBuilder();
        text.append(method.getReturnType()).append(' ').append(method.getName()).append('(');
        String comma = "";
        for (Class<?> type : method.getParameterTypes()) {
            text.append(comma).append(type);
            comma = ",";
        }
        return text.append(')').toString();
    }
}
