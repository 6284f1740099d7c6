import java.lang.reflect.Method;
import java.util.Random;
import java.util.TreeMap;

/** Long runs of mixed calls, the same ones in each run of this test, each compared with the model. */
final class ModelTest {
    private static final int RUNS = 250;
    private static final int CALLS = 512;

    /** For each call its weight, and the least and the greatest ordinary value of each argument. */
    private static final String[] CALLS_BY_WEIGHT = {
        "setFloor 6 0 19 0 11 1 45", "setWater 12 0 9 0 23 0 30", "setSlope 4 0 9 -2 2", "waterAt 2 0 19 0 9 0 23",
        "setWeather 2 0 9 0 9", "addGauge 2 0 19", "fail 6 0 2 0 9 0 23 1 24", "mend 2 0 2 0 9", "told 6 0 2 0 9 0 23",
        "tide 6 0 19 0 9 0 23", "run 12 -1 -1 0 11 0 19 0 11 0 9 0 23", "runAnew 5 0 15 0 9 0 23",
        "disturb 14 0 15 0 9 -2 2 -12 12", "soundings 3 0 15", "sounding 6 0 15 0 12 -3 3", "reduced 8 0 15 0 12 -3 3",
        "isSpike 8 0 15 0 12 -3 3", "spikes 4 0 15", "lost 4 0 15", "depth 8 0 19 0 11", "depthAnew 8 0 19 0 11",
        "charted 3", "gap 4 0 200", "bestRow 3", "lines 1", "dayOf 2 0 15", "toRun 3", "cross 8 0 15 0 15",
        "worstCross 4", "hours 3 0 9", "hire 3", "chartedShare 1", "meanDepth 3", "writeLine 3 0 15",
        "textAt 4 0 18", "isSure 3"};

    private final Random random;
    private final Both both = new Both();
    private final int days;

    private ModelTest(int seed) {
        random = new Random(seed);
        days = 1 + seed % 10;
    }

    public static void main(String[] args) throws Exception {
        TreeMap<String, TreeMap<String, Integer>> seen = new TreeMap<>();
        for (int seed = 0; seed < RUNS; seed++) {
            new ModelTest(seed).run(seed, seen);
        }
        checkThatAllWasSeen(seen);
        Checks.end("ModelTest");
    }

    private void run(int seed, TreeMap<String, TreeMap<String, Integer>> seen) throws Exception {
        for (int number = 0; number < CALLS; number++) {
            String[] call = pick().split(" ");
            if (!both.agree("run " + seed + ", call " + number, call[0], arguments(call))) {
                return;
            }
            String want = both.due();
            String kind = want.startsWith("throws.") ? want : call[0].equals("isSpike") ? want : "answers";
            seen.computeIfAbsent(call[0], name -> new TreeMap<>()).merge(kind, 1, Integer::sum);
        }
    }

    private String pick() {
        int sum = 0;
        for (String call : CALLS_BY_WEIGHT) {
            sum += Integer.parseInt(call.split(" ")[1]);
        }
        int left = random.nextInt(sum);
        for (String call : CALLS_BY_WEIGHT) {
            left -= Integer.parseInt(call.split(" ")[1]);
            if (left < 0) {
                return call;
            }
        }
        throw new IllegalStateException("no call");
    }

    private Object[] arguments(String[] call) {
        Method asked = Both.methodOf(SwathSurvey.class, call[0]);
        Object[] values = new Object[asked.getParameterCount()];
        boolean alongRow = random.nextBoolean();
        for (int place = 0; place < values.length; place++) {
            int least = Integer.parseInt(call[2 + 2 * place]);
            int greatest = Integer.parseInt(call[3 + 2 * place]);
            if (asked.getParameterTypes()[place] == char.class) {
                values[place] = random.nextInt(60) == 0 ? 'x' : alongRow ? 'r' : 'c';
            } else if (call[0].equals("run") && place < 4) {
                values[place] = number(0, alongRow == (place == 1) ? 11 : 19);
            } else {
                values[place] = number(least, least == 0 && greatest == 9 ? days - 1 : narrowed(greatest));
            }
        }
        return values;
    }

    /** Numbers of lines stay near those that there are. */
    private int narrowed(int greatest) {
        return greatest == 15 ? Math.max(1, Math.min(15, both.model.lines())) : greatest;
    }

    private int number(int least, int greatest) {
        int dice = random.nextInt(200);
        if (dice == 0) {
            return random.nextBoolean() ? least - 1 : greatest + 1;
        }
        if (dice == 1) {
            return random.nextInt();
        }
        return least + random.nextInt(greatest - least + 1);
    }

    /** A run that never came to an exception or to a spike would prove little. */
    private static void checkThatAllWasSeen(TreeMap<String, TreeMap<String, Integer>> seen) {
        for (Method method : SwathSurvey.class.getDeclaredMethods()) {
            if (!java.lang.reflect.Modifier.isPublic(method.getModifiers())) {
                continue;
            }
            TreeMap<String, Integer> answers = seen.getOrDefault(method.getName(), new TreeMap<>());
            boolean told = answers.containsKey("answers")
                || answers.containsKey("true") && answers.containsKey("false");
            if (!told) {
                Checks.wrong(method.getName() + " never answered");
            }
            for (Class<?> thrown : method.getExceptionTypes()) {
                boolean rare = method.getName().equals("bestRow");
                if (!rare && !answers.containsKey("throws." + thrown.getSimpleName())) {
                    Checks.wrong(method.getName() + " never threw " + thrown.getSimpleName());
                }
            }
        }
    }
}
