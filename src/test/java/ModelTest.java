import java.lang.reflect.InvocationTargetException;
import java.lang.reflect.Method;
import java.util.ArrayList;
import java.util.HashMap;
import java.util.List;
import java.util.Map;
import java.util.Random;

/**
 * All promises together: runs of 512 calls, each answered by ColdLine as by the Model, which is a
 * second reading of the document. A run ends at the first answer that is another one, and its last
 * calls are printed.
 */
public final class ModelTest {
    private static final Check CHECK = new Check();
    private static final int RUNS = 600;
    private static final int CALLS = 512;
    private static final int SHOWN = 25;
    /* A call, how often it comes, and each usual argument: S a station, C a car, or least..most. */
    private static final String[] USUAL = {
        "station 2 1..12", "stock 6 S -200..900", "gang 3 S 0..100", "price 5 S 0..99", "weather 8 S 0..47 -400..500",
        "read 2 S", "out 4 S 0..300", "loss 2 0..9 0..40", "car 4 S 1..40 -400..500",
        "load 24 C 0..43 1..500 1..10000 1..12 -400..500", "tier 30 C 0..3 0..4", "fill 6 C 1..60", "vent 3 C 0..1",
        "send 16 C S", "turn 8 C S", "late 4 S 0..6", "look 30 C 0..7", "feed 1 0..99 0..4", "wipe 1",
        "rule 1 0..50 20..900", "run 40 1..4", "sell 16 C", "worth 12 C S", "best 5 C", "claim 14 C 0..2",
        "count 9 0..8", "at 6 S 0..4", "tell 6 0..47 -600..700", "tear 1", "row 3 0..47", "copy 3 0..30 0..30 0..30",
        "status 3 -8..-2"};

    private final Random random;
    private final ColdLine line = new ColdLine();
    private final Model model = new Model();
    private final List<String> calls = new ArrayList<>();
    private final Map<String, Method[]> methods = new HashMap<>();
    private final List<String[]> urn = new ArrayList<>();
    private boolean isAlike = true;

    private ModelTest(int seed) {
        random = new Random(seed);
        for (String told : USUAL) {
            String[] words = told.split(" ");
            for (int i = 0; i < Integer.parseInt(words[1]); i++) {
                urn.add(words);
            }
        }
        for (Method method : ColdLine.class.getMethods()) {
            if (method.getDeclaringClass() == ColdLine.class) {
                methods.put(method.getName(), new Method[] {method, counterpart(method)});
            }
        }
    }

    public static void main(String[] args) {
        for (int seed = 0; seed < RUNS; seed++) {
            new ModelTest(seed).run(seed);
        }
        CHECK.end();
    }

    private static Method counterpart(Method method) {
        try {
            return Model.class.getMethod(method.getName(), method.getParameterTypes());
        } catch (NoSuchMethodException e) {
            throw new IllegalStateException(e);
        }
    }

    private void run(int seed) {
        beginLine();
        while (isAlike && calls.size() < CALLS) {
            if (random.nextInt(40) == 0) {
                feedRule();
            } else {
                String[] words = urn.get(random.nextInt(urn.size()));
                Integer[] arguments = new Integer[words.length - 2];
                for (int i = 0; i < arguments.length; i++) {
                    arguments[i] = argument(words[i + 2]);
                }
                call(words[0], arguments);
            }
        }
        if (!isAlike) {
            calls.subList(Math.max(0, calls.size() - SHOWN), calls.size())
                    .forEach(c -> System.out.println("  seed " + seed + ": " + c));
        }
    }

    /** Most lines begin with stations, markets and cars, so that more calls find something there. */
    private void beginLine() {
        int stations = random.nextInt(7);
        for (int s = 0; s < stations; s++) {
            call("station", 1 + random.nextInt(random.nextBoolean() ? 2 : 12));
        }
        for (int s = 0; s < stations + 2; s++) {
            call("price", s, random.nextInt(100));
            call("stock", s, random.nextInt(1000));
            call("weather", s, random.nextInt(48), random.nextInt(500) - 100);
        }
        int cars = random.nextInt(10);
        for (int c = 0; c < cars; c++) {
            call("car", random.nextInt(stations + 2), 1 + random.nextInt(20), random.nextInt(300));
        }
    }

    private int argument(String usual) {
        if (usual.equals("S")) {
            return argument(0, model.count(1) - 1);
        }
        if (usual.equals("C")) {
            return argument(0, Math.max(0, model.count(2) - 1));
        }
        String[] both = usual.split("\\.\\.");
        return argument(Integer.parseInt(both[0]), Integer.parseInt(both[1]));
    }

    private int argument(int least, int most) {
        switch (random.nextInt(60)) {
            case 0: return least - 1;
            case 1: return most + 1;
            case 2: return least;
            case 3: return most;
            case 4: return new int[] {Integer.MIN_VALUE, Integer.MAX_VALUE, random.nextInt(), -9999, 200}[random.nextInt(5)];
            default: return least + random.nextInt(most - least + 1);
        }
    }

    private void feedRule() {
        call("wipe");
        StringBuilder text = new StringBuilder(random.nextInt(3) == 0 ? "vent " : "fill ");
        text.append(text.charAt(0) == 'v' ? random.nextInt(2) : random.nextInt(130));
        int tests = random.nextInt(random.nextInt(8) == 0 ? 5 : 3);
        for (int t = 0; t < tests; t++) {
            text.append(t == 0 ? " if " : " and ").append(anyTest());
        }
        if (random.nextInt(8) == 0) {
            text.setCharAt(random.nextInt(text.length()), " 0-xi=".charAt(random.nextInt(6)));
        }
        for (int i = 0; i < text.length(); i += 4) {
            int n = Math.min(4, text.length() - i);
            int bytes = random.nextInt();
            for (int k = 0; k < n; k++) {
                bytes = bytes << 8 | text.charAt(i + k);
            }
            call("feed", bytes, n);
        }
        int from = random.nextInt(60);
        call("rule", from, from + 1 + random.nextInt(400));
    }

    private String anyTest() {
        String sign = "=<>".substring(random.nextInt(3)).substring(0, 1);
        switch (random.nextInt(5)) {
            case 0: return "ice" + sign + random.nextInt(100);
            case 1: return "heat" + sign + (random.nextInt(500) - 100);
            case 2: return "out" + sign + (random.nextInt(500) - 100);
            case 3: return "station" + sign + random.nextInt(5);
            default: return "car" + sign + random.nextInt(6);
        }
    }

    private void call(String name, Integer... arguments) {
        if (!isAlike || calls.size() >= CALLS) {
            return;
        }
        int due = answer(1, model, name, arguments);
        int got = answer(0, line, name, arguments);
        String told = name + List.of(arguments);
        calls.add(told + " is due " + due);
        CHECK.due(told, got, due);
        isAlike = got == due;
    }

    private int answer(int which, Object object, String name, Integer[] arguments) {
        try {
            return (int) methods.get(name)[which].invoke(object, (Object[]) arguments);
        } catch (IllegalAccessException | InvocationTargetException e) {
            throw new IllegalStateException(name + List.of(arguments), e);
        }
    }
}
