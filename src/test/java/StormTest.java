import java.lang.reflect.InvocationTargetException;
import java.lang.reflect.Method;
import java.lang.reflect.Modifier;
import java.util.HashMap;
import java.util.Map;
import java.util.Random;

/** Long runs of calls by chance (with fixed seeds), each answer beside that of the Oracle. */
public final class StormTest {
    static final int RUNS = 6000;
    static final int CALLS_OF_A_RUN = 512;
    private static final int[] ODD = {-1, -2, 6, 7, 10, 12, 30, 60, 61, 84, 100, 101, 240, 241, 2000,
        Integer.MAX_VALUE, Integer.MIN_VALUE};

    private final Map<String, Method> ofIt = methodsOf(Menuline.class);
    private final Map<String, Method> ofOracle = methodsOf(Oracle.class);
    private final Random chance;
    private final Menuline x = new Menuline();
    private final Oracle y = new Oracle();
    private final int nodesUsed;
    private final int longestPass;
    private final boolean wild;
    private String last = "";

    private StormTest(long seed) {
        chance = new Random(seed);
        nodesUsed = 3 + chance.nextInt(28);
        longestPass = chance.nextInt(3) == 0 ? 100 : 1 + chance.nextInt(12);
        wild = chance.nextInt(4) == 0;
    }

    public static void main(String[] args) {
        Due due = new Due("StormTest");
        int[] ends = new int[6];
        for (int run = 0; run < RUNS; run++) {
            StormTest storm = new StormTest(run);
            String wrong = storm.blow();
            due.is("run " + run + ": " + wrong, wrong.isEmpty(), true);
            for (int call = 0; call < storm.x.calls(); call++) {
                if (storm.x.end(call) >= 0) {
                    ends[storm.x.end(call)]++;
                }
            }
        }
        for (int how = 0; how < 6; how++) {
            due.is("enough calls over as " + how + ": " + ends[how], ends[how] > 100, true);
        }
        due.close();
    }

    private String blow() {
        int plan = 0;
        for (int i = 0; i < CALLS_OF_A_RUN; i++) {
            String wrong = plan < 2 * nodesUsed ? tellSomething() : doSomething();
            plan++;
            if (i % 150 == 149 && chance.nextBoolean()) {
                plan = 2 * nodesUsed - 6;
                for (int call = 0; call < x.calls(); call++) {
                    wrong += hangIfNotOver(call);
                }
            }
            if (!wrong.isEmpty()) {
                return "at " + i + ": " + last + ": " + wrong;
            }
        }
        return everything();
    }

    private String hangIfNotOver(int call) {
        return x.state(call) == Menuline.OVER ? "" : both("hang", call);
    }

    // ---- numbers by chance

    private int upTo(int most) {
        return wild && chance.nextInt(25) == 0 ? ODD[chance.nextInt(ODD.length)] : chance.nextInt(most + 1);
    }

    private int from(int least, int most) {
        return wild && chance.nextInt(25) == 0 ? ODD[chance.nextInt(ODD.length)]
                : least + chance.nextInt(most - least + 1);
    }

    private int node() {
        return upTo(nodesUsed - 1);
    }

    private int target() {
        return chance.nextInt(8) == 0 ? -1 : node();
    }

    private int someCall() {
        int calls = x.calls();
        for (int tries = 0; tries < 6 && calls > 0; tries++) {
            int call = chance.nextInt(calls);
            if (x.state(call) != Menuline.OVER) {
                return call;
            }
        }
        return upTo(59);
    }

    private int someKey() {
        int[] bases = {10, 100, 1000};
        int base = bases[chance.nextInt(3)];
        int digits = 0;
        for (int unit = 1; unit < base; unit *= 10) {
            digits += unit * chance.nextInt(4);
        }
        return wild && chance.nextInt(10) == 0 ? from(0, 2100) : base + digits;
    }

    // ---- calls by chance

    private String tellSomething() {
        switch (chance.nextInt(16)) {
            case 0:
                return both("say", node(), from(1, chance.nextBoolean() ? 5 : 60), target());
            case 1:
                return both("menu", node());
            case 2:
            case 3:
            case 4:
            case 5:
                return both("key", node(), someKey(), target());
            case 6:
                return both("input", node(), from(1, 3), from(3, 6), target());
            case 7:
                return both("times", node(), from(1, 12), from(1, 5), from(1, 5), target());
            case 8:
            case 9:
                return branch();
            case 10:
                return both("sub", node(), target(), target());
            case 11:
                return both("back", node());
            case 12:
            case 13:
                return both("queue", node(), upTo(chance.nextInt(6)), upTo(9), from(1, chance.nextBoolean() ? 20 : 500),
                        from(1, chance.nextBoolean() ? 3 : 30), target());
            case 14:
                return both("leaving", node(), target());
            default:
                return both("callback", node());
        }
    }

    private String branch() {
        int what = upTo(4);
        int[] most = {999999, 300, 5, 6, 5};
        int a = what >= 0 && what < 5 ? upTo(most[what]) : upTo(5);
        return both("branch", node(), what, a, upTo(chance.nextBoolean() ? 3 : 60), target(), target());
    }

    private String doSomething() {
        switch (chance.nextInt(24)) {
            case 0:
            case 1:
            case 2:
            case 3:
                return both("call", node());
            case 4:
            case 5:
            case 6:
            case 7:
            case 8:
                return both("press", someCall(), chance.nextInt(5) == 0 ? upTo(11) : upTo(3));
            case 9:
                return both("hang", someCall());
            case 10:
            case 11:
                return both("pick", ringing());
            case 12:
            case 13:
                return both("signOn", upTo(5), chance.nextBoolean() ? from(1, 63) : 1 << chance.nextInt(6));
            case 14:
                return chance.nextInt(3) == 0 ? both("signOff", upTo(5)) : both("wrap", upTo(5), upTo(8));
            case 15:
                return both("finish", upTo(5));
            case 16:
                return both("transfer", upTo(5), node());
            case 17:
                return both("hours", upTo(6), upTo(120), from(120, 240));
            case 18:
                return both("holiday", upTo(83), chance.nextInt(2));
            case 19:
                return everything();
            default:
                return both("pass", from(1, longestPass));
        }
    }

    private int ringing() {
        for (int call = 0; call < x.calls(); call++) {
            if (x.state(call) == Menuline.RINGING) {
                return call;
            }
        }
        return someCall();
    }

    private String everything() {
        last = "all that is so";
        String[] ofCalls = {"state", "end", "nodeOf", "numberOf", "placeOf", "placeByReplay"};
        StringBuilder wrong = new StringBuilder();
        for (int call = -1; call <= x.calls(); call++) {
            for (String what : ofCalls) {
                wrong.append(both(what, call));
            }
        }
        for (int i = -1; i <= 6; i++) {
            wrong.append(both("waiting", i)).append(both("agent", i)).append(both("callOf", i));
        }
        for (int node = -1; node <= 30; node++) {
            wrong.append(both("begun", node)).append(both("ways", upTo(29), node));
            wrong.append(both("ways", node, target()));
        }
        return wrong + both("isOpen") + both("calls");
    }

    // ---- both of them

    /** Empty if both answer the same; otherwise what they answer. */
    private String both(String what, int... n) {
        StringBuilder text = new StringBuilder(what);
        for (int number : n) {
            text.append(' ').append(number);
        }
        last = text.toString();
        String one = answer(ofIt.get(what), x, n);
        String other = answer(ofOracle.get(what), y, n);
        return one.equals(other) ? "" : last + " answered " + one + ", due is " + other + "; ";
    }

    private static Map<String, Method> methodsOf(Class<?> kind) {
        Map<String, Method> methods = new HashMap<>();
        for (Method method : kind.getDeclaredMethods()) {
            if (!Modifier.isPrivate(method.getModifiers())) {
                methods.put(method.getName(), method);
            }
        }
        return methods;
    }

    private static String answer(Method method, Object of, int[] n) {
        Object[] with = new Object[n.length];
        for (int i = 0; i < n.length; i++) {
            boolean yes = method.getParameterTypes()[i] == boolean.class;
            with[i] = yes ? (Object) (n[i] == 1) : (Object) n[i];
        }
        try {
            return String.valueOf(method.invoke(of, with));
        } catch (InvocationTargetException e) {
            return e.getCause().getClass().getName();
        } catch (IllegalAccessException e) {
            throw new AssertionError(e);
        }
    }
}
