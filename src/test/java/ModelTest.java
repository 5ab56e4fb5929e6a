import java.lang.reflect.InvocationTargetException;
import java.lang.reflect.Method;
import java.lang.reflect.Modifier;
import java.util.Arrays;
import java.util.Map;
import java.util.Random;
import java.util.TreeMap;

/**
 * Long runs of calls, told to the program and to a model that was written from the document in
 * another way: each answer must be alike. Which answers came is counted, and those that the
 * document names must have come. Always the same runs, by the seed.
 */
public final class ModelTest {
    private static final Check CHECK = new Check("ModelTest");
    private static final int RUNS = 2500;
    private static final int CALLS = 512;
    private static final int[] EDGES = {
        Integer.MIN_VALUE, -10, -4, -3, -2, -1, 0, 1, 2, 7, 8, 9, 10, 11, 12, 17, 18, 20, 30, 31, 40, 41, 60, 63, 64, 99, 100, 101,
        600, 9999, 10000, Integer.MAX_VALUE,
    };
    private static final String[] ITEMS = {"height", "cover", "edge", "shade"};
    private static final Map<String, Method[]> METHODS = new TreeMap<>();
    private static final Map<String, Integer> SEEN = new TreeMap<>();

    private final int seed;
    private final Random random;
    private final PlanningBench bench = new PlanningBench();
    private final Model model = new Model();
    private int calls = 0;

    private ModelTest(int seed) {
        this.seed = seed;
        random = new Random(seed);
    }

    public static void main(String[] args) throws ReflectiveOperationException {
        findMethods();
        for (int i = 0; i < RUNS; i++) {
            new ModelTest(i).run(i % 6);
        }
        allSeen();
        CHECK.finish();
    }

    private static void findMethods() throws NoSuchMethodException {
        for (Method m : PlanningBench.class.getDeclaredMethods()) {
            if (Modifier.isPublic(m.getModifiers())) {
                METHODS.put(m.getName(), new Method[] {m, Model.class.getDeclaredMethod(m.getName(), m.getParameterTypes())});
            }
        }
        CHECK.due("public methods", METHODS.size(), 23);
    }

    /** Kinds of runs: 0 squares in rows, 1 any rings, 2 many plans, 3 many applications, 4 small plots in shade, 5 limits. */
    private void run(int kind) throws ReflectiveOperationException {
        tellPlots(kind);
        tellPlan(kind == 4 ? "zone{plots 0 1 2 3 4 5 6 7 8;use 0 1 2 3 4 5 6 7;shade " + random.nextInt(30) + ";}" : text());
        while (calls < CALLS) {
            int chance = random.nextInt(100);
            if (kind == 5 && chance < 60) {
                pressOn();
            } else if (chance < (kind == 2 ? 20 : kind == 4 ? 1 : 3)) {
                tellPlan(text());
            } else if (chance < (kind == 4 ? 8 : 4)) {
                straightOn();
            } else if (chance < 28 && kind >= 3 || chance < 12) {
                ask("apply", design());
            } else if (chance < 34) {
                ask("day", later());
            } else if (chance < 36 && kind != 3) {
                tellRing(anyRing(), random.nextInt(4) == 0);
            } else if (chance < 75) {
                goOn();
            } else {
                look();
            }
        }
    }

    // ---- what is told ----

    private void tellPlots(int kind) throws ReflectiveOperationException {
        int size = kind == 4 ? 8 : 6 + random.nextInt(14);
        int gap = random.nextInt(3) == 0 ? random.nextInt(5) : 0;
        int plots = kind == 4 ? 9 : kind == 3 ? 2 : 2 + random.nextInt(8);
        for (int i = 0; i < plots; i++) {
            int x = i % 3 * (size + gap);
            int y = i / 3 * (size + gap);
            tellRing(kind == 1 ? anyRing() : new int[] {x, y, x + size, y, x + size, y + size, x, y + size}, false);
        }
    }

    private void tellRing(int[] corners, boolean backwards) throws ReflectiveOperationException {
        for (int i = 0; i + 1 < corners.length; i += 2) {
            int place = backwards ? corners.length - 2 - i : i;
            ask("corner", sometimesWrong(60, corners[place], corners[place + 1]));
        }
        ask("plot");
    }

    /** Towards a full tape, a hundred holders, and rings of too few corners. */
    private void pressOn() throws ReflectiveOperationException {
        switch (random.nextInt(8)) {
            case 0:
                tellRing(Arrays.copyOf(anyRing(), 2 * random.nextInt(3)), false);
                break;
            case 1:
                ask("feed", random.nextInt(), random.nextInt(), random.nextInt(), random.nextInt(), random.nextInt());
                break;
            case 2:
                ask("count", 4);
                break;
            default:
                ask("hold", sometimesWrong(20, plot(), random.nextInt(100), anyDay()));
                break;
        }
    }

    /** Three to nine corners round an ellipse, which mostly go round to the left. */
    private int[] anyRing() {
        int count = 3 + random.nextInt(7);
        double reachX = 2 + random.nextInt(18);
        double reachY = 2 + random.nextInt(18);
        double x = reachX + random.nextInt((int) (64 - 2 * reachX));
        double y = reachY + random.nextInt((int) (64 - 2 * reachY));
        int[] corners = new int[2 * count];
        for (int i = 0; i < count; i++) {
            double turn = 2 * Math.PI * (i + random.nextDouble() / 3) / count;
            corners[2 * i] = (int) Math.round(x + reachX * Math.cos(turn));
            corners[2 * i + 1] = (int) Math.round(y + reachY * Math.sin(turn));
        }
        return corners;
    }

    private void tellPlan(String text) throws ReflectiveOperationException {
        for (int i = 0; i < text.length(); i += 20) {
            int[] words = new int[5];
            for (int k = 0; k < 20; k++) {
                words[k / 4] = words[k / 4] << 8 | (i + k < text.length() ? text.charAt(i + k) : ' ');
            }
            ask("feed", words);
        }
        int length = random.nextInt(30) == 0 ? text.length() + random.nextInt(40) - 20 : text.length();
        int from = model.count(2) == 0 ? 0 : random.nextInt(3) == 0 ? random.nextInt(model.count(0) + 100) : random.nextInt(20);
        ask("adopt", sometimesWrong(40, length, Math.min(9999, from)));
        ask("fault");
    }

    private String text() {
        StringBuilder text = new StringBuilder();
        int zones = random.nextInt(20) == 0 ? 8 + random.nextInt(3) : 1 + random.nextInt(3);
        for (int i = 0; i < zones; i++) {
            text.append(zones > 7 ? "zone{" : " zone {\n");
            text.append(random.nextInt(15) == 0 ? "" : "plots" + numbers(12, zones > 7 ? 6 : 20) + ";");
            text.append(random.nextInt(15) == 0 ? "" : "use" + numbers(8, zones > 7 ? 6 : 12) + (zones > 7 ? ";" : " ; "));
            for (int k = random.nextInt(5); k > 0 && zones < 8; k--) {
                text.append(item());
            }
            text.append("}");
        }
        if (random.nextInt(12) == 0) {
            text.setCharAt(random.nextInt(text.length()), "z{};0a9 \n\u00ff-".charAt(random.nextInt(11)));
        }
        return text.toString();
    }

    private String item() {
        int kind = random.nextInt(4);
        int[] most = {60, 150, 4, 60};
        return ITEMS[kind] + " " + (random.nextInt(15) == 0 ? random.nextInt(1001) : random.nextInt(most[kind])) + ";";
    }

    private String numbers(int below, int most) {
        StringBuilder numbers = new StringBuilder();
        for (int i = 1 + random.nextInt(most); i > 0; i--) {
            numbers.append(' ').append(random.nextInt(30) == 0 ? random.nextInt(1000) : random.nextInt(below));
        }
        return numbers.toString();
    }

    /** A plot, a rectangle mostly in it, a height, a use that is mostly allowed, a day and a day to know it. */
    private int[] design() {
        int plot = random.nextInt(Math.max(1, model.count(1)));
        int reach = random.nextInt(4) == 0 ? 12 : 5;
        int[] numbers = {plot, 0, 0, 0, 0, 1 + random.nextInt(random.nextInt(3) == 0 ? 40 : 6), use(plot), anyDay(), anyDay()};
        for (int tries = random.nextInt(40); tries >= 0; tries--) {
            int corner = random.nextInt(Math.max(1, model.ring(plot, 0)));
            numbers[1] = Math.max(0, model.ring(plot, 2 + 2 * corner) + random.nextInt(21) - 10);
            numbers[2] = Math.max(0, model.ring(plot, 3 + 2 * corner) + random.nextInt(21) - 10);
            numbers[3] = numbers[1] + 1 + random.nextInt(reach);
            numbers[4] = numbers[2] + 1 + random.nextInt(reach);
            if (Math.abs(model.judge(plot, numbers[1], numbers[2], numbers[3], numbers[4], 1, 0, 0, 0)) != 1) {
                break;
            }
        }
        return sometimesWrong(60, numbers);
    }

    private int use(int plot) {
        int plan = model.plan(model.count(0), model.count(0));
        int use = random.nextInt(8);
        for (int tries = 6; tries > 0 && model.zone(plan, plot, 10 + use) != 1; tries--) {
            use = random.nextInt(8);
        }
        return use;
    }

    /** A day on which something may be over for an application, or one soon, or a wrong one. */
    private int later() {
        int today = model.count(0);
        int last = model.told(application(), 8);
        switch (random.nextInt(6)) {
            case 0:
                return last;
            case 1:
                return last + 1;
            case 2:
                return today + 31;
            case 3:
                return random.nextInt(40) == 0 ? 9999 : today + random.nextInt(8);
            case 4:
                return random.nextInt(4) == 0 ? today + 290 + random.nextInt(120) : today + 1 + random.nextInt(30);
            default:
                return sometimesWrong(8, today + random.nextInt(65) - 5)[0];
        }
    }

    /** Some applications that nobody objects to, up to what stands, and a look at what they shade. */
    private void straightOn() throws ReflectiveOperationException {
        int first = model.count(3);
        for (int i = random.nextInt(4); i >= 0; i--) {
            ask("apply", design());
        }
        ask("day", model.count(0) + 31 + random.nextInt(3));
        for (int i = first; i < model.count(3); i++) {
            ask("decide", i);
            ask("build", i);
            ask("build", i);
            int[] next = design();
            next[7] = model.count(0);
            next[8] = model.count(0);
            ask("judge", next);
        }
    }

    private void goOn() throws ReflectiveOperationException {
        int application = sometimesWrong(60, random.nextBoolean() ? application() : inState(random.nextInt(5)))[0];
        int how = model.told(application, 0);
        if (how == 0 && random.nextInt(8) != 0) {
            boolean late = model.count(0) > model.told(application, 8);
            ask(random.nextInt(10) == 0 != late ? "decide" : "object", application, plot());
            for (int plot = 0; plot < model.count(1) && !late && random.nextInt(12) != 0; plot++) {
                ask("object", application, plot);
            }
        } else if ((how == 1 || how == 3) && random.nextInt(4) != 0) {
            ask("build", application);
        } else if (how == 2 && random.nextInt(3) == 0) {
            ask("appeal", application);
        } else if (how == 4 && random.nextInt(4) == 0) {
            int done = model.told(application, 7);
            ask("raze", application, done - 1 + random.nextInt(Math.max(1, model.count(0) + 3 - done)));
        } else if (random.nextInt(3) != 0) {
            look();
        } else if (random.nextInt(3) == 0) {
            ask("hold", sometimesWrong(20, plot(), random.nextInt(100), anyDay()));
        } else {
            String[] names = {"decide", "object", "build", "appeal", "clash", "raze"};
            ask(names[random.nextInt(names.length)], application, plot());
        }
    }

    // ---- what is asked ----

    private void look() throws ReflectiveOperationException {
        switch (random.nextInt(12)) {
            case 0:
                ask("count", sometimesWrong(15, random.nextInt(7)));
                break;
            case 1:
                ask("ring", sometimesWrong(15, plot(), random.nextInt(19)));
                break;
            case 2:
                ask("near", sometimesWrong(15, plot(), plot(), random.nextInt(40)));
                break;
            case 3:
                ask("plan", sometimesWrong(15, anyDay(), anyDay()));
                break;
            case 4:
                ask("zone", sometimesWrong(15, random.nextInt(model.count(2) + 1), plot(), random.nextInt(19)));
                break;
            case 5:
                ask("holder", sometimesWrong(15, plot(), anyDay(), anyDay()));
                break;
            case 6:
                ask("stands", sometimesWrong(6, inState(4), anyDay(), anyDay()));
                break;
            case 7:
                ask("clash", application());
                break;
            case 8:
            case 9:
                ask("judge", design());
                break;
            default:
                ask("told", sometimesWrong(20, application(), random.nextInt(10)));
                break;
        }
    }

    private int plot() {
        return random.nextInt(model.count(1) + 1);
    }

    /** Mostly one of the latest. */
    private int application() {
        int applications = model.count(3);
        return random.nextInt(3) == 0 ? random.nextInt(applications + 1) : Math.max(0, applications - 1 - random.nextInt(5));
    }

    /** One that is so today, if one of several is. */
    private int inState(int how) {
        int application = application();
        for (int tries = 9; tries > 0 && model.told(application, 0) != how; tries--) {
            application = random.nextInt(model.count(3) + 1);
        }
        return application;
    }

    /** Today, or a day on which something happened to an application, or the one before, or any. */
    private int anyDay() {
        switch (random.nextInt(5)) {
            case 0:
            case 1:
                return model.count(0);
            case 2:
                return Math.max(0, model.told(inState(4), 1 + random.nextInt(2) * 6));
            case 3:
                return Math.max(0, model.told(inState(4), 7) - 1);
            default:
                return random.nextInt(model.count(0) + 2);
        }
    }

    private int[] sometimesWrong(int chance, int... numbers) {
        if (random.nextInt(chance) == 0) {
            numbers[random.nextInt(numbers.length)] = EDGES[random.nextInt(EDGES.length)];
        }
        return numbers;
    }

    /** Asks both with as many of the numbers as the call takes; where they part, the run ends. */
    private void ask(String name, int... numbers) throws ReflectiveOperationException {
        if (calls == CALLS) {
            return;
        }
        calls++;
        Method[] both = METHODS.get(name);
        int[] taken = Arrays.copyOf(numbers, both[0].getParameterCount());
        int got = answer(both[0], bench, taken);
        int want = answer(both[1], model, taken);
        CHECK.due("run " + seed + ", call " + calls + ", " + name + Arrays.toString(taken), got, want);
        if (got != want) {
            calls = CALLS;
        }
        String shown = name.equals("told") ? name + taken[1] : name;
        SEEN.merge(shown + " " + want, 1, Integer::sum);
    }

    private static int answer(Method method, Object asked, int[] numbers) throws ReflectiveOperationException {
        Object[] boxed = Arrays.stream(numbers).boxed().toArray();
        try {
            Object answer = method.invoke(asked, boxed);
            return answer instanceof Boolean ? ((Boolean) answer ? 1 : 0) : (Integer) answer;
        } catch (InvocationTargetException thrown) {
            throw new IllegalStateException(method + " of " + Arrays.toString(numbers), thrown.getCause());
        }
    }

    // ---- whether the runs came far enough ----

    private static void allSeen() {
        String[] calls = {"day", "near", "raze", "stands", "hold"};
        for (String call : calls) {
            seen(call, 0, 1);
        }
        seen("corner", -1, -1);
        seen("corner", 1, 8);
        seen("plot", -1, 11);
        seen("ring", -1, 60);
        seen("adopt", -3, 19);
        seen("fault", -1, 1);
        seen("plan", -1, 19);
        seen("zone", -1, 7);
        seen("judge", -1, 8);
        seen("apply", -1, 39);
        seen("object", -4, -1);
        seen("object", 1, 2);
        seen("decide", -1, 9);
        seen("build", 3, 4);
        seen("appeal", -1, 8);
        seen("clash", -1, 3);
        seen("told0", -1, 5);
        seen("told3", 0, 9);
        seen("told4", 0, 9);
        seen("told9", -1, 1);
        seen("feed", -1, -1);
        seen("feed", 600, 600);
    }

    private static void seen(String name, int low, int high) {
        for (int answer = low; answer <= high; answer++) {
            CHECK.due(name + " answered " + answer + " some day", SEEN.containsKey(name + " " + answer), true);
        }
    }
}
