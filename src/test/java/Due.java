import java.util.function.Supplier;

/** What the tests share: answers that are due, calls that are taken or refused, and short ways to say them. */
final class Due {
    static final Class<? extends RuntimeException> INDEX = IndexOutOfBoundsException.class;
    static final Class<? extends RuntimeException> ARGUMENT = IllegalArgumentException.class;
    static final Class<? extends RuntimeException> STATE = IllegalStateException.class;

    /** A call of an object with a number that is tried out. */
    interface Try {
        void with(Menuline x, int number);
    }

    private final String name;
    private Document document;
    private String sentence = "";
    private int checksOfSentence = 1;
    private int checks;
    private int wrong;

    Due(String name) {
        this.name = name;
    }

    /** What is checked from now on holds the class against these words of the document. */
    void sentence(int promise, String words) {
        endSentence();
        if (document == null) {
            document = Document.read();
        }
        sentence = Document.where(promise) + ", \"" + words + "\": ";
        checksOfSentence = 0;
        if (!document.name(promise, words)) {
            complain("the document does not say so");
        }
    }

    private void endSentence() {
        if (checksOfSentence == 0) {
            complain("nothing was checked");
        }
    }

    /** Complains of every sentence of the document that was not named. */
    void allSentencesAreNamed() {
        endSentence();
        sentence = "";
        is("how many sentences there are", document.size() > 100, true);
        for (String left : document.unnamed()) {
            is("the sentence without a test: " + left, 0, 1);
        }
    }

    void is(String what, long got, long want) {
        count();
        if (got != want) {
            complain(what + " answered " + got + ", due is " + want);
        }
    }

    void is(String what, boolean got, boolean want) {
        is(what, got ? 1 : 0, want ? 1 : 0);
    }

    void same(String what, String got, String want) {
        count();
        if (!got.equals(want)) {
            complain(what + " answered " + got + ", due is " + want);
        }
    }

    /** The call throws nothing. */
    void taken(String what, Runnable call) {
        count();
        String thrown = thrownBy(call);
        if (!thrown.isEmpty()) {
            complain(what + " threw " + thrown + ", due is nothing");
        }
    }

    /** The call throws just this, and changes nothing, neither what can be seen nor what is inside. */
    void refused(String what, Menuline x, Class<? extends RuntimeException> want, Runnable call) {
        count();
        String before = Inside.of(x);
        String thrown = thrownBy(call);
        if (!thrown.equals(want.getName())) {
            complain(what + " threw " + (thrown.isEmpty() ? "nothing" : thrown) + ", due is " + want.getName());
        }
        if (!before.equals(Inside.of(x))) {
            complain(what + " changed something");
        }
    }

    private static String thrownBy(Runnable call) {
        try {
            call.run();
            return "";
        } catch (RuntimeException e) {
            return e.getClass().getName();
        }
    }

    /** The least and the most are taken, each by a scene of its own; what is beyond them is refused. */
    void range(String what, Supplier<Menuline> scene, int least, int most, Class<? extends RuntimeException> refusal,
            Try call) {
        for (int number : new int[] {least, most}) {
            taken(what + " " + number, () -> call.with(scene.get(), number));
        }
        int[] beyond = {least - 1, most + 1, -most - 1, 1 << 16, Integer.MIN_VALUE, Integer.MAX_VALUE};
        for (int number : beyond) {
            if (number < least || number > most) {
                Menuline x = scene.get();
                refused(what + " " + number, x, refusal, () -> call.with(x, number));
            }
        }
    }

    private void count() {
        checks++;
        checksOfSentence++;
    }

    private void complain(String text) {
        wrong++;
        if (wrong <= 30) {
            System.out.println(name + ": " + sentence + text);
        }
    }

    /** Says how it went; ends the program with 1 if something was wrong. */
    void close() {
        System.out.println(name + ": " + checks + " answers, " + wrong + " not as due");
        if (wrong != 0) {
            System.exit(1);
        }
    }

    /** A way of calls from a node on through always-true branches: from, from + 1, ..., last, then to `then`. */
    static void chain(Menuline x, int from, int last, int then) {
        for (int node = from; node <= last; node++) {
            x.branch(node, Menuline.NUMBER, 0, 0, node == last ? then : node + 1, Menuline.NONE);
        }
    }

    static void pressAll(Menuline x, int call, String digits) {
        for (char digit : digits.toCharArray()) {
            x.press(call, digit == '*' ? 10 : digit == '#' ? 11 : digit - '0');
        }
    }

    /** Lets time pass up to some time, from the one given. */
    static int passTo(Menuline x, int now, int to) {
        int time = now;
        while (time < to) {
            time = x.pass(Math.min(100, to - time));
        }
        return time;
    }
}
