import java.lang.reflect.InvocationTargetException;
import java.lang.reflect.Method;
import java.util.Arrays;
import java.util.Comparator;
import java.util.Map;
import java.util.Random;
import java.util.TreeMap;

/** Runs of 512 calls with ordinary and wrong numbers, each answer compared with that of the model. */
public final class ModelTest {
    private static final int RUNS = 1500;
    private static final int CALLS = 512;
    private static final Map<String, Integer> SEEN = new TreeMap<>();

    public static void main(String[] args) throws Exception {
        Method[] face = CallGateway.class.getDeclaredMethods();
        Method[] methods = Arrays.stream(face).filter(m -> java.lang.reflect.Modifier.isPublic(m.getModifiers()))
                .sorted(Comparator.comparing(Method::getName)).toArray(Method[]::new);
        for (int seed = 0; seed < RUNS; seed++) {
            run(new Random(seed), methods, "seed " + seed);
        }
        // Runs that never reach an answer would prove nothing.
        for (String wanted : new String[] {"call n", "call l", "call s", "call c", "call f", "broken b", "broken c",
            "isUndone true", "isUndone false", "hasCanary true", "setPlan lost", "takeBack undone",
            "addRoute " + Check.ISE, "addPlan " + Check.ISE, "addCaller " + Check.ISE, "begin " + Check.ISE,
            "ticksUntil " + Check.NSEE, "faults " + Check.NSEE, "meanCost " + Check.AE, "route " + Check.NSEE}) {
            Check.same(wanted + " was seen", true, SEEN.getOrDefault(wanted, 0) > 20);
        }
        Check.end();
    }

    private static void run(Random random, Method[] methods, String name) throws Exception {
        CallGateway gateway = new CallGateway();
        GatewayModel model = new GatewayModel();
        for (int i = 0; i < CALLS; i++) {
            Method method = i < 20 && random.nextInt(3) > 0 ? setUp(random, methods) : next(random, methods);
            Object[] numbers = numbersFor(method, random);
            Method twin = GatewayModel.class.getMethod(method.getName(), method.getParameterTypes());
            Object got = answerOf(method, gateway, numbers);
            Object want = answerOf(twin, model, numbers);
            Check.same(name + " call " + i + " " + method.getName() + Arrays.toString(numbers), want, got);
            note(method.getName(), want);
        }
    }

    private static Method setUp(Random random, Method[] methods) {
        String[] names = {"addRoute", "addRoute", "addPlan", "addCaller", "begin"};
        return named(names[random.nextInt(names.length)], methods);
    }

    private static Method next(Random random, Method[] methods) {
        int kind = random.nextInt(20);
        if (kind < 8) {
            return named("call", methods);
        }
        if (kind < 10) {
            return named("begin", methods);
        }
        return methods[random.nextInt(methods.length)];
    }

    private static Method named(String name, Method[] methods) {
        return Arrays.stream(methods).filter(m -> m.getName().equals(name)).findFirst().orElseThrow();
    }

    private static Object answerOf(Method method, Object target, Object[] numbers) throws Exception {
        try {
            return method.invoke(target, numbers);
        } catch (InvocationTargetException e) {
            return "throws." + e.getCause().getClass().getSimpleName();
        }
    }

    private static Object[] numbersFor(Method method, Random random) {
        Class<?>[] types = method.getParameterTypes();
        Object[] numbers = new Object[types.length];
        for (int i = 0; i < types.length; i++) {
            if (types[i] == char.class) {
                numbers[i] = "nlscfnlscfnlscfbx".charAt(random.nextInt(17));
            } else if (random.nextInt(60) == 0) {
                numbers[i] = wrongNumber(random);
            } else {
                numbers[i] = number(method.getName(), i, random);
            }
        }
        return numbers;
    }

    private static int wrongNumber(Random random) {
        int[] wrong = {-1, 0, 6, 8, 10, 21, 100, 101, 1000, 10000, Integer.MAX_VALUE, Integer.MIN_VALUE};
        return wrong[random.nextInt(wrong.length)];
    }

    private static int number(String method, int place, Random random) {
        switch (method + place) {
            case "addRoute0": case "route0": case "routeByComparing0": case "call1":
                return path(random);
            case "addRoute1":
                return 1 + random.nextInt(5);
            case "addRoute2": case "setContract1":
                return random.nextInt(6);
            case "addRoute3": case "setContract2":
                return 4 + random.nextInt(6);
            case "setAnswer1": case "begin1":
                return random.nextInt(11);
            case "begin2": case "setShare1":
                return 1 + random.nextInt(100);
            case "begin3":
                return 1 + random.nextInt(4);
            case "addPlan0":
                return 1 + random.nextInt(4);
            case "addPlan1":
                return 1 + random.nextInt(30);
            case "addPlan2": case "call2":
                return random.nextInt(100);
            case "pass0":
                return 1 + random.nextInt(random.nextInt(5) == 0 ? 100 : 6);
            case "isUndone0":
                return random.nextInt(80);
            case "addCaller0": case "setPlan1":
                return random.nextInt(3);
            case "bill0": case "billByLog0": case "call0": case "count0": case "setPlan0": case "ticksUntil0":
            case "tokens0":
                return random.nextInt(6);
            default:
                return random.nextInt(8);
        }
    }

    private static int path(Random random) {
        int path = 0;
        for (int length = random.nextInt(5); length > 0; length--) {
            path = path * 10 + 1 + random.nextInt(2);
        }
        return random.nextInt(30) == 0 ? random.nextInt(10000) : path;
    }

    private static void note(String name, Object answer) {
        String what = name + " " + answer;
        if (answer instanceof Integer && (Integer) answer > 0) {
            what = name.equals("setPlan") ? "setPlan lost" : name.equals("takeBack") ? "takeBack undone" : what;
        }
        SEEN.merge(what, 1, Integer::sum);
    }
}
