import java.lang.reflect.InvocationTargetException;
import java.lang.reflect.Method;
import java.lang.reflect.Modifier;
import java.util.Arrays;
import java.util.Comparator;
import java.util.List;

/** Finds and runs the tests of a class: its methods, not private, that take a Check alone. */
final class Cases {
    private Cases() {
    }

    static List<Method> of(Class<?> tests) {
        return Arrays.stream(tests.getDeclaredMethods())
                .filter(m -> Modifier.isStatic(m.getModifiers()))
                .filter(m -> !Modifier.isPrivate(m.getModifiers()))
                .filter(m -> Arrays.equals(m.getParameterTypes(), new Class<?>[] {Check.class}))
                .sorted(Comparator.comparing(Method::getName))
                .toList();
    }

    /** Ends the program with exit code 1 if an answer of a test was wrong. */
    static void run(Class<?> tests) {
        int answers = 0;
        int wrong = 0;
        for (Method test : of(tests)) {
            Check check = new Check(label(test));
            runOne(test, check);
            answers += check.answersMade();
            wrong += check.answersWrong();
        }
        System.out.println(of(tests).size() + " tests, " + answers + " answers, " + wrong + " wrong");
        if (wrong != 0 || answers == 0) {
            System.exit(1);
        }
    }

    private static void runOne(Method test, Check check) {
        try {
            test.invoke(null, check);
        } catch (InvocationTargetException e) {
            check.wrong("threw " + e.getCause());
        } catch (IllegalAccessException e) {
            check.wrong("can't be run: " + e);
        }
        if (check.answersMade() == 0) {
            check.wrong("asked nothing");
        }
    }

    private static String label(Method test) {
        Says says = test.getAnnotation(Says.class);
        if (says == null) {
            return test.getName();
        }
        return section(says.promise()) + ", " + test.getName() + " (\"" + says.value() + "\")";
    }

    private static String section(int promise) {
        return switch (promise) {
            case Says.WHAT_IT_IS -> "What it is";
            case Says.TERMS -> "Terms";
            default -> "Promise " + promise;
        };
    }
}
