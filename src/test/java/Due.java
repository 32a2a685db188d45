import java.util.Arrays;

/** What the tests share: answers that are due, calls that are refused, and all that is so of an object. */
final class Due {
    static final Class<? extends RuntimeException> INDEX = IndexOutOfBoundsException.class;
    static final Class<? extends RuntimeException> ARGUMENT = IllegalArgumentException.class;
    static final Class<? extends RuntimeException> STATE = IllegalStateException.class;

    private final String name;
    private int checks;
    private int wrong;

    Due(String name) {
        this.name = name;
    }

    void is(String what, long got, long want) {
        checks++;
        if (got != want) {
            complain(what + " answered " + got + ", due is " + want);
        }
    }

    void is(String what, boolean got, boolean want) {
        is(what, got ? 1 : 0, want ? 1 : 0);
    }

    /** The call throws just this, and changes nothing that can be seen. */
    void refused(String what, Menuline x, Class<? extends RuntimeException> want, Runnable call) {
        checks++;
        int[] before = allOf(x);
        Class<?> got = null;
        try {
            call.run();
        } catch (RuntimeException e) {
            got = e.getClass();
        }
        if (got != want) {
            complain(what + " threw " + (got == null ? "nothing" : got.getName()) + ", due is " + want.getName());
        }
        if (!Arrays.equals(before, allOf(x))) {
            complain(what + " changed something");
        }
    }

    private void complain(String text) {
        wrong++;
        if (wrong <= 30) {
            System.out.println(name + ": " + text);
        }
    }

    /** Says how it went; ends the program with 1 if something was wrong. */
    void close() {
        System.out.println(name + ": " + checks + " answers, " + wrong + " not as due");
        if (wrong != 0) {
            System.exit(1);
        }
    }

    /** All that an object tells of itself. */
    static int[] allOf(Menuline x) {
        int[] all = new int[2000];
        int size = 0;
        all[size++] = x.calls();
        all[size++] = x.isOpen() ? 1 : 0;
        for (int call = 0; call < x.calls(); call++) {
            all[size++] = x.state(call);
            all[size++] = x.end(call);
            all[size++] = x.nodeOf(call);
            all[size++] = x.numberOf(call);
            all[size++] = x.placeOf(call);
            all[size++] = x.placeByReplay(call);
        }
        for (int skill = 0; skill < 6; skill++) {
            all[size++] = x.waiting(skill);
            all[size++] = x.agent(skill);
            all[size++] = x.callOf(skill);
        }
        for (int from = 0; from < 30; from++) {
            all[size++] = x.begun(from);
            for (int to = -1; to < 30; to++) {
                all[size++] = x.ways(from, to);
            }
        }
        return Arrays.copyOf(all, size);
    }

    /** A way of calls from a node on through always-true branches: from, from + 1, ..., last, then to `then`. */
    static void chain(Menuline x, int from, int last, int then) {
        for (int node = from; node <= last; node++) {
            x.branch(node, Menuline.NUMBER, 0, 0, node == last ? then : node + 1, Menuline.NONE);
        }
    }

    static void pressAll(Menuline x, int call, String digits) {
        for (char digit : digits.toCharArray()) {
            x.press(call, digit == '*' ? 10 : digit == '#' ? 11 : digit - '0');
        }
    }

    /** Lets time pass up to some time, from the one given. */
    static int passTo(Menuline x, int now, int to) {
        int time = now;
        while (time < to) {
            time = x.pass(Math.min(100, to - time));
        }
        return time;
    }
}
