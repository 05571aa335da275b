import java.lang.reflect.InvocationTargetException;
import java.lang.reflect.Method;
import java.lang.reflect.Modifier;
import java.util.ArrayList;
import java.util.Arrays;
import java.util.Comparator;
import java.util.List;

/** Long mixed runs of calls, each answer and the digest behind it compared with PlainDesk's. */
public final class RunsTest {
    private static final int RUNS = 400;
    private static final int CALLS = 512;
    private static final int[] WILD = {Integer.MIN_VALUE, -1, 0, 4, 20, 256, 1441, 10000, 100000,
        Integer.MAX_VALUE};

    /** The calls that make things happen come more often than those that only tell. */
    private static final String[] FREQUENT = {"pass", "pass", "pass", "pass", "open", "pause",
        "resume", "resume", "reopen", "reopen", "setSkills", "next", "due"};

    private static long seed;

    public static void main(String[] args) throws Exception {
        List<Method> calls = new ArrayList<>();
        for (Method method : HelpDesk.class.getDeclaredMethods()) {
            if (Modifier.isPublic(method.getModifiers())) {
                calls.add(method);
            }
        }
        // The machine tells methods in no fixed order, and a run must be the same each time.
        calls.sort(Comparator.comparing(Method::getName));
        for (int run = 0; run < RUNS; run++) {
            seed = 1000003L * run + 17;
            oneRun(run, calls);
        }
        Check.finish("RunsTest");
    }

    private static void oneRun(int run, List<Method> calls) throws Exception {
        HelpDesk desk = new HelpDesk();
        PlainDesk plain = new PlainDesk();
        int longest = new int[] {3, 40, 250, 600}[run % 4];
        if (run % 5 == 4) {
            beginLate(desk, plain);
        }
        for (int i = 0; i < CALLS; i++) {
            Method call = chosen(calls);
            Object[] values = values(call, longest);
            Method due = PlainDesk.class.getMethod(call.getName(), call.getParameterTypes());
            String got = answer(call, desk, values);
            String want = answer(due, plain, values);
            Check.same("run " + run + " call " + i + ": " + call.getName() + Arrays.toString(values)
                    + " answered " + got + ", due is " + want + ":", got.equals(want), true);
            if (desk.digest() != plain.digest()) {
                Check.fail("run " + run + " call " + i + ": another digest behind " + call.getName()
                        + Arrays.toString(values));
                return;
            }
        }
    }

    /** From minute 0 on, a run's calls would not come to the last minute. */
    private static void beginLate(HelpDesk desk, PlainDesk plain) {
        int first = Desks.LAST_MINUTE - below(20000);
        while (desk.now() < first) {
            int minutes = Math.min(600, first - desk.now());
            desk.pass(minutes);
            plain.pass(minutes);
        }
    }

    private static Method chosen(List<Method> calls) {
        if (below(2) == 0) {
            return calls.get(below(calls.size()));
        }
        String name = FREQUENT[below(FREQUENT.length)];
        for (Method call : calls) {
            if (call.getName().equals(name)) {
                return call;
            }
        }
        throw new IllegalStateException("no call " + name);
    }

    private static String answer(Method call, Object object, Object[] values) throws Exception {
        try {
            return String.valueOf(call.invoke(object, values));
        } catch (InvocationTargetException e) {
            if (object instanceof HelpDesk) {
                Check.byItself(call.getName() + Arrays.toString(values), e.getCause());
            }
            return "throws." + e.getCause().getClass().getSimpleName();
        }
    }

    private static Object[] values(Method call, int longest) {
        Object[] values = new Object[call.getParameterCount()];
        for (int i = 0; i < values.length; i++) {
            if (call.getParameterTypes()[i] == boolean.class) {
                values[i] = below(2) == 0;
            } else if (below(40) == 0) {
                values[i] = WILD[below(WILD.length)];
            } else {
                values[i] = value(call.getName(), i, longest);
            }
        }
        return values;
    }

    private static int value(String call, int place, int longest) {
        switch (call) {
            case "setHours":
                return place == 0 ? oneOf(0, 0, 540, below(1442) - 1) : oneOf(1440, 1020, below(1442), 1);
            case "setTargets":
                return place == 0 ? below(4) : below(3) == 0 ? below(10001) : below(40 * place) + 1;
            case "service":
                return place == 0 ? below(60000) : below(100001);
            case "addAgent":
                return new int[] {below(256), oneOf(127, 31, 0, below(128)),
                    oneOf(0, 540, 1439, below(1441)), oneOf(1440, 1020, below(1441), 1441)}[place];
            case "setSkills":
                return place == 0 ? below(7) : below(258) - 1;
            case "agent":
                return place == 0 ? below(7) : below(5);
            case "open":
                return new int[] {below(8), below(4), oneOf(1, below(10), below(100), below(602)),
                    below(10)}[place];
            case "setPriority":
                return place == 0 ? below(21) : below(4);
            case "reopen":
                return place == 0 ? below(21) : oneOf(1, 300, below(301), below(302));
            case "ticket":
                return place == 0 ? below(21) : below(9);
            case "pass":
                return below(longest) + 1;
            case "all":
                return below(5);
            case "next":
                return below(7);
            default:
                return below(21);
        }
    }

    private static int oneOf(int a, int b, int c, int d) {
        return new int[] {a, b, c, d}[below(4)];
    }

    private static int below(int bound) {
        seed = seed * 6364136223846793005L + 1442695040888963407L;
        return (int) ((seed >>> 33) % bound);
    }
}
