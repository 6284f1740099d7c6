import java.lang.reflect.Method;
import java.lang.reflect.Modifier;
import java.nio.file.Files;
import java.nio.file.Path;
import java.util.ArrayList;
import java.util.List;

/** The calls that README.md shows answer what it shows behind them, and it names every call of the face. */
final class ReadmeTest {
    private final List<String> shown = new ArrayList<>();
    private int next = 1;

    private ReadmeTest(String readme) {
        boolean inBlock = false;
        for (String line : readme.split("\n")) {
            if (line.startsWith("```")) {
                inBlock = !inBlock;
            } else if (inBlock) {
                shown.add(line);
            }
        }
    }

    public static void main(String[] args) throws Exception {
        String readme = Files.readString(Path.of(args[1], "README.md"));
        new ReadmeTest(readme).asShown();
        namesEveryCall(readme);
        Checks.end("ReadmeTest");
    }

    private void asShown() {
        SwathSurvey survey = new SwathSurvey();
        Checks.due("SwathSurvey survey = new SwathSurvey();", () -> shown.isEmpty() ? "nothing" : shown.get(0));
        dueAsShown("addGauge(0)", () -> survey.addGauge(0));
        dueAsShown("setWater(0, 6, 12)", () -> survey.setWater(0, 6, 12));
        dueAsShown("run('r', 5, 0, 9, 0, 6)", () -> survey.run('r', 5, 0, 9, 0, 6));
        dueAsShown("soundings(0)", () -> survey.soundings(0));
        dueAsShown("sounding(0, 4, 1)", () -> survey.sounding(0, 4, 1));
        dueAsShown("reduced(0, 4, 1)", () -> survey.reduced(0, 4, 1));
        dueAsShown("disturb(0, 4, 1, 30)", () -> survey.disturb(0, 4, 1, 30));
        dueAsShown("isSpike(0, 4, 1)", () -> survey.isSpike(0, 4, 1));
        dueAsShown("charted()", survey::charted);
        dueAsShown("depth(4, 6)", () -> survey.depth(4, 6));
        dueAsShown("fail(0, 0, 7, 24)", () -> survey.fail(0, 0, 7, 24));
        dueAsShown("lost(0)", () -> survey.lost(0));
        dueAsShown("writeLine(0)", () -> survey.writeLine(0));
        dueAsShown("textAt(0)", () -> survey.textAt(0));
        dueAsShown("mend(0, 0)", () -> survey.mend(0, 0));
        dueAsShown("run('c', 3, 0, 11, 1, 6)", () -> survey.run('c', 3, 0, 11, 1, 6));
        dueAsShown("cross(0, 1)", () -> survey.cross(0, 1));
        dueAsShown("hire()", survey::hire);
        Checks.due(shown.size(), () -> next);
    }

    /** The next line shows this call, and behind it the answer, up to a comma or a colon. */
    private void dueAsShown(String text, Checks.Call call) {
        String line = next < shown.size() ? shown.get(next) : "";
        next++;
        String answer = Checks.answerOf(call).replace("throws.", "throws ");
        String want = "survey." + text + ";";
        if (!line.startsWith(want) || !line.substring(want.length()).matches(" +// " + answer + "([,:].*)?")) {
            Checks.wrong(text + " answers " + answer + ", README.md shows: " + line);
        }
    }

    private static void namesEveryCall(String readme) {
        for (Method method : SwathSurvey.class.getDeclaredMethods()) {
            boolean open = Modifier.isPublic(method.getModifiers());
            if (open && !readme.contains("`" + method.getName() + "`")) {
                Checks.wrong("README.md does not name " + method.getName());
            }
        }
    }
}
