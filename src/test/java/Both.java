import java.lang.reflect.InvocationTargetException;
import java.lang.reflect.Method;
import java.lang.reflect.Modifier;
import java.util.Arrays;

/** A survey and the model of the document, which are asked the same calls. */
final class Both {
    final SwathSurvey survey = new SwathSurvey();
    final Model model = new Model();

    private String due = "";

    /** Whether both answer the same. */
    boolean agree(String where, String name, Object... values) throws IllegalAccessException {
        String got = answer(methodOf(SwathSurvey.class, name), survey, values);
        due = answer(methodOf(Model.class, name), model, values);
        if (!due.equals(got)) {
            Checks.wrong(where + ": " + name + Arrays.toString(values) + " answered " + got + ", due is " + due);
        }
        return due.equals(got);
    }

    /** What the model answered last. */
    String due() {
        return due;
    }

    static Method methodOf(Class<?> owner, String name) {
        for (Method method : owner.getDeclaredMethods()) {
            if (method.getName().equals(name) && Modifier.isPublic(method.getModifiers())) {
                return method;
            }
        }
        throw new IllegalStateException("no method " + name);
    }

    private static String answer(Method asked, Object owner, Object[] values) throws IllegalAccessException {
        try {
            return String.valueOf(asked.invoke(owner, values));
        } catch (InvocationTargetException thrown) {
            return "throws." + thrown.getCause().getClass().getSimpleName();
        }
    }
}
