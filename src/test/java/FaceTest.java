import java.lang.reflect.Constructor;
import java.lang.reflect.Field;
import java.lang.reflect.Method;
import java.lang.reflect.Modifier;
import java.nio.file.Files;
import java.nio.file.Path;
import java.util.ArrayList;
import java.util.List;
import java.util.TreeSet;

/** The face of the class is the one of the document, word for word, and has no other member. */
final class FaceTest {
    private FaceTest() {
    }

    public static void main(String[] args) throws Exception {
        TreeSet<String> promised = promisedFace(Path.of(args[0], "DOC.md"));
        TreeSet<String> built = builtFace();
        compare("is missing", promised, built);
        compare("is not promised", built, promised);
        if (promised.size() != 37) {
            Checks.wrong("the document shows " + promised.size() + " members, not 37");
        }
        checkTheRestIsPrivate();
        Checks.end("FaceTest");
    }

    private static void compare(String what, TreeSet<String> these, TreeSet<String> those) {
        for (String member : these) {
            if (!those.contains(member)) {
                Checks.wrong(what + ": " + member);
            }
        }
    }

    /** The lines of the block, without the names of the parameters. */
    private static TreeSet<String> promisedFace(Path document) throws Exception {
        TreeSet<String> face = new TreeSet<>();
        boolean inBlock = false;
        for (String line : Files.readAllLines(document)) {
            if (line.startsWith("```")) {
                inBlock = !inBlock;
            } else if (inBlock && line.startsWith("    public ")) {
                face.add(line.trim().replace(";", "").replaceAll("(int|char) \\w+(?=[,)])", "$1"));
            }
        }
        return face;
    }

    private static TreeSet<String> builtFace() {
        TreeSet<String> face = new TreeSet<>();
        for (Constructor<?> made : SwathSurvey.class.getDeclaredConstructors()) {
            face.add("public SwathSurvey(" + names(made.getParameterTypes()) + ")");
        }
        for (Method method : SwathSurvey.class.getDeclaredMethods()) {
            if (!Modifier.isPrivate(method.getModifiers())) {
                String thrown = names(method.getExceptionTypes());
                face.add(Modifier.toString(method.getModifiers()) + " " + method.getReturnType().getSimpleName() + " "
                    + method.getName() + "(" + names(method.getParameterTypes()) + ")"
                    + (thrown.isEmpty() ? "" : " throws " + thrown));
            }
        }
        return face;
    }

    private static String names(Class<?>[] types) {
        List<String> names = new ArrayList<>();
        for (Class<?> type : types) {
            names.add(type.getSimpleName());
        }
        return String.join(", ", names);
    }

    private static void checkTheRestIsPrivate() {
        if (SwathSurvey.class.getModifiers() != (Modifier.PUBLIC | Modifier.FINAL)) {
            Checks.wrong("the class is not public and final");
        }
        for (Field field : SwathSurvey.class.getDeclaredFields()) {
            boolean constant = !Modifier.isStatic(field.getModifiers()) || Modifier.isFinal(field.getModifiers());
            if (!Modifier.isPrivate(field.getModifiers()) || !constant) {
                Checks.wrong("the field " + field.getName() + " is not as the rules ask");
            }
        }
        TreeSet<String> open = new TreeSet<>();
        for (Method method : SwathSurvey.class.getDeclaredMethods()) {
            if (!Modifier.isPrivate(method.getModifiers())) {
                open.add(method.getName());
            }
        }
        for (Method method : SwathSurvey.class.getDeclaredMethods()) {
            if (Modifier.isPrivate(method.getModifiers()) && open.contains(method.getName())) {
                Checks.wrong("the private method " + method.getName() + " bears the name of a public one");
            }
        }
    }
}
