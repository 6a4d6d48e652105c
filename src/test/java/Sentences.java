import java.lang.reflect.InvocationTargetException;
import java.lang.reflect.Method;
import java.util.Arrays;
import java.util.Comparator;

/** Runs the tests of a class, which are the methods that bear a sentence of the document. */
final class Sentences {
    private Sentences() {
    }

    static void test(Class<?> tests) {
        Method[] methods = tests.getDeclaredMethods();
        Arrays.sort(methods, Comparator.comparing(Method::getName));
        int asked = 0;
        int count = 0;
        boolean wrong = false;
        for (Method method : methods) {
            Sentence sentence = method.getAnnotation(Sentence.class);
            if (sentence != null) {
                Due due = new Due(tests.getName() + "." + method.getName() + ", \"" + sentence.value() + "\": ");
                run(method, due);
                asked += due.asked();
                wrong |= due.isWrong();
                count++;
            }
        }
        System.out.println(tests.getName() + ": " + count + " sentences, " + asked + " answers");
        if (wrong || count == 0) {
            System.exit(1);
        }
    }

    /** Whatever is thrown counts as a wrong answer, for no call of the program throws. */
    private static void run(Method method, Due due) {
        try {
            method.invoke(null, due);
            due.same("whether anything was asked", due.asked() > 0, true);
        } catch (InvocationTargetException thrown) {
            due.wrong("threw " + thrown.getCause());
        } catch (IllegalAccessException thrown) {
            due.wrong("cannot be called: " + thrown);
        }
    }
}
