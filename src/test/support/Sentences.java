import java.io.IOException;
import java.lang.reflect.InvocationTargetException;
import java.lang.reflect.Method;
import java.util.ArrayList;
import java.util.Comparator;
import java.util.List;

/** Runs every method of a test that stands for a sentence, and looks whether the document has that sentence. */
final class Sentences {
    private Sentences() {
    }

    static void run(Class<?> test) throws IOException, ReflectiveOperationException {
        Due due = new Due(test.getSimpleName());
        List<Method> methods = new ArrayList<>();
        for (Method m : test.getDeclaredMethods()) {
            if (m.isAnnotationPresent(Sentence.class)) {
                methods.add(m);
            }
        }
        methods.sort(Comparator.comparing(Method::getName));
        for (Method m : methods) {
            runOne(m, due);
        }
        due.end();
    }

    private static void runOne(Method m, Due due) throws IOException, ReflectiveOperationException {
        Sentence sentence = m.getAnnotation(Sentence.class);
        due.about(sentence.promise() + " '" + sentence.says() + "': " + m.getName() + ": ");
        due.holds("the document says so", Document.section(sentence.promise()).contains(sentence.says()));
        int asked = due.asked();
        m.setAccessible(true);
        try {
            m.invoke(null, due);
        } catch (InvocationTargetException thrown) {
            due.holds("a call threw " + thrown.getCause(), false);
        }
        due.holds("something is asked", due.asked() > asked);
    }
}
