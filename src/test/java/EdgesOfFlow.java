/** The terms of nodes, sentence by sentence: how calls go on, just ahead of every bound and just behind it. */
final class EdgesOfFlow {
    private static final int NONE = Menuline.NONE;
    private final Due due;

    EdgesOfFlow(Due due) {
        this.due = due;
    }

    void run() {
        nodes();
        leadsOn();
        takesThePlace();
        onlyWhileAllAreOver();
        say();
        keysAreRows();
        keysBeginOneAnother();
        behindEachDigit();
        misses();
        inputs();
        inputNumbers();
        waitsAndGaps();
        waitsAnew();
        hash();
        star();
        tries();
        atFirst();
        branchOpenAndDay();
        branchNumber();
        branchWaits();
        branchWaitsForMost();
        branchFree();
        subAndBack();
        atMostFour();
        claims();
        caps();
        capsCountWhoWaits();
        mostTicks();
        leaving();
        callback();
        none();
        loopByCall();
        loopByPressAndTick();
        loopByTransfer();
        loopAtEachKind();
    }

    // ---- nodes

    private void nodes() {
        due.sentence(0, "There are the nodes 0 to 29.");
        due.range("call", Scene::quiet, 0, 29, Due.INDEX, Menuline::call);
        Menuline x = Scene.allOf(Scene.SAY);
        for (int node = 0; node < 30; node++) {
            due.is("a call at each of them", x.nodeOf(x.call(node)), node);
        }
    }

    private void leadsOn() {
        due.sentence(0, "Each leads on to nodes, or to NONE, which is the end of a call.");
        for (int next : new int[] {NONE, 0, 29}) {
            Menuline x = Scene.allOf(Scene.SAY);
            x.say(5, 1, next);
            x.call(5);
            x.pass(1);
            due.is("its node", x.nodeOf(0), next);
            due.is("its way", x.ways(5, next), 1);
            due.is("its end", x.end(0), next == NONE ? Menuline.ENDED : NONE);
        }
        due.sentence(0, "A node of which nothing was told leads to NONE at once.");
        Menuline x = new Menuline();
        for (int node = 0; node < 30; node++) {
            due.is("over at once", x.end(x.call(node)), Menuline.ENDED);
            due.is("by the way to NONE", x.ways(node, NONE), 1);
            due.is("by no other way", x.ways(node, (node + 1) % 30), 0);
        }
        due.is("no time went by", x.pass(1), 1);
    }

    private void takesThePlace() {
        due.sentence(0, "What is told of a node takes the place of all that was told of it before.");
        for (int first = Scene.QUEUE; first <= Scene.BACK; first++) {
            for (int later = Scene.QUEUE; later <= Scene.BACK; later++) {
                Menuline x = Scene.quiet();
                Scene.tell(x, first, 20);
                if (first == Scene.MENU) {
                    x.key(20, 11, Scene.SAY);
                    x.key(20, 1234, Scene.SAY);
                }
                if (first == Scene.MENU || first == Scene.INPUT) {
                    x.times(20, 2, 1, 5, Scene.SAY);
                }
                x.wrap(0, 0);
                tellPlainly(x, later);
                Menuline y = Scene.quiet();
                y.wrap(0, 0);
                tellPlainly(y, later);
                due.same(later + " behind " + first, lifeAt20(x), lifeAt20(y));
            }
        }
    }

    private static void tellPlainly(Menuline x, int kind) {
        if (kind == Scene.QUEUE) {
            x.queue(20, 0, 0, 12, 1, NONE);
        } else {
            Scene.tell(x, kind, 20);
        }
    }

    /** What comes of calls at the node 20, and whether it can be told keys, times and leaving. */
    private static String lifeAt20(Menuline x) {
        StringBuilder text = new StringBuilder();
        int call = x.call(20);
        for (int key : new int[] {1, 10, 2, 3, 4, 11, 1}) {
            boolean listens = x.state(call) == Menuline.IN_FLOW || x.state(call) == Menuline.WAITING;
            text.append(listens ? x.press(call, key) : -7).append(' ');
        }
        int quiet = x.call(20);
        for (int tick = 0; tick < 62; tick++) {
            x.pass(1);
            text.append(x.nodeOf(quiet)).append(x.state(quiet)).append(' ');
        }
        for (int one : new int[] {call, quiet}) {
            if (x.state(one) != Menuline.OVER) {
                x.hang(one);
            }
        }
        try {
            text.append("keys ").append(x.key(20, 1555, 0));
        } catch (IllegalStateException e) {
            text.append("no menu");
        }
        return text.toString();
    }

    private void onlyWhileAllAreOver() {
        due.sentence(0, "Nodes can be changed only while all calls are over.");
        due.taken("without a call", () -> Scene.quiet().back(0));
        for (int lives : new int[] {0, 30, 59}) {
            Menuline x = Scene.quiet();
            for (int call = 0; call < 60; call++) {
                x.call(call == lives ? Scene.SAY : Scene.BLANK);
            }
            due.refused("all are over but " + lives, x, Due.STATE, () -> x.back(0));
            x.hang(lives);
            due.taken("all of sixty are over", () -> x.back(0));
        }
    }

    // ---- SAY

    private void say() {
        due.sentence(0, "SAY: the call stays for some ticks, and goes on; what it tells meanwhile does not matter.");
        Menuline x = Scene.quiet();
        x.say(20, 60, Scene.MENU);
        x.key(Scene.MENU, 112, 29);
        x.call(20);
        for (int tick = 1; tick <= 59; tick++) {
            for (int key = 0; key <= 11 && tick % 12 == 11; key++) {
                due.is("it tells " + key, x.press(0, key), 20);
            }
            x.pass(1);
            due.is("it stays", x.nodeOf(0), 20);
        }
        x.press(0, 1);
        x.pass(1);
        due.is("it goes on", x.nodeOf(0), Scene.MENU);
        due.is("nothing was told to the menu", x.press(0, 2), Scene.MENU);
        Due.pressAll(x, 0, "12");
        due.is("one miss, and then a key", x.ways(Scene.MENU, 29), 1);
    }

    // ---- MENU

    private void keysAreRows() {
        due.sentence(0, "MENU: the call tells digits.");
        Menuline x = Scene.quiet();
        for (int digit = 0; digit <= 9; digit++) {
            x.key(Scene.MENU, 10 + digit, 20 + digit);
        }
        for (int digit = 0; digit <= 9; digit++) {
            x.press(x.call(Scene.MENU), digit);
            due.is("the digit " + digit, x.ways(Scene.MENU, 20 + digit), 1);
        }
        due.sentence(0, "A key is told by a number whose first digit is 1, and whose others are those of the key "
                + "(10 is the key 0, 112 the key 12).");
        int[] numbers = {10, 112, 11, 19, 100, 101, 110, 199, 1000, 1001, 1010, 1100, 1111, 1999};
        String[] rows = {"0", "12", "1", "9", "00", "01", "10", "99", "000", "001", "010", "100", "111", "999"};
        for (int i = 0; i < numbers.length; i++) {
            Menuline y = Scene.quiet();
            y.key(Scene.MENU, numbers[i], 29);
            Due.pressAll(y, y.call(Scene.MENU), rows[i]);
            due.is("the key " + rows[i], y.ways(Scene.MENU, 29), 1);
        }
    }

    private void keysBeginOneAnother() {
        due.sentence(0, "Its keys are rows of 1 to 3 digits, each with a node; a key can be the beginning of another one.");
        int[] keys = {11, 112, 1123};
        for (int length = 1; length <= 3; length++) {
            Menuline x = menuWith(keys);
            Due.pressAll(x, x.call(Scene.MENU), "123".substring(0, length) + (length < 3 ? "#" : ""));
            due.is("the key of " + length + " digits", x.ways(Scene.MENU, 20 + length - 1), 1);
        }
        Menuline x = menuWith(10, 100, 1000);
        Due.pressAll(x, x.call(Scene.MENU), "00");
        x.pass(2);
        due.is("00 begins 000", x.press(0, 0), NONE);
        due.is("so it is 000", x.ways(Scene.MENU, 22), 1);
        Menuline y = menuWith(10, 100, 1001, 1002, 1003, 1004, 1005, 1006, 1007, 1008);
        Due.pressAll(y, y.call(Scene.MENU), "008");
        due.is("the tenth key", y.ways(Scene.MENU, 29), 1);
        Due.pressAll(y, y.call(Scene.MENU), "0#");
        due.is("the first key", y.ways(Scene.MENU, 20), 1);
    }

    /** The menu of quiet(), with these keys; the first leads to the node 20, the next one to 21, and so on. */
    private static Menuline menuWith(int... keys) {
        Menuline x = Scene.quiet();
        for (int i = 0; i < keys.length; i++) {
            x.key(Scene.MENU, keys[i], 20 + i);
        }
        return x;
    }

    private void behindEachDigit() {
        due.sentence(0, "Behind each digit: if the row of digits told so far is a key, and no other key begins with it, "
                + "the call goes on to the node of that key; otherwise, if some key begins with it, one waits; "
                + "otherwise it is a miss.");
        Menuline x = menuWith(11, 1234, 156);
        due.is("a key that begins no other one", x.press(x.call(Scene.MENU), 1), NONE);
        due.is("goes on", x.ways(Scene.MENU, 20), 1);
        Menuline y = menuWith(11, 1123);
        due.is("a key that begins another one waits", y.press(y.call(Scene.MENU), 1), Scene.MENU);
        due.is("two digits of three wait", y.press(0, 2), Scene.MENU);
        due.is("no way yet", y.ways(Scene.MENU, 20) + y.ways(Scene.MENU, 21), 0);
        due.is("the third one", y.press(0, 3), NONE);
        due.is("goes on", y.ways(Scene.MENU, 21), 1);
        String[] missed = {"2", "13", "124", "3", "0"};
        for (String row : missed) {
            Menuline z = menuWith(11, 1123);
            z.times(Scene.MENU, 10, 3, 1, 29);
            z.call(Scene.MENU);
            Due.pressAll(z, 0, row.substring(0, row.length() - 1));
            due.is("ahead of the last digit of " + row, z.nodeOf(0), Scene.MENU);
            Due.pressAll(z, 0, row.substring(row.length() - 1));
            due.is("the row " + row + " is a miss", z.ways(Scene.MENU, 29), 1);
        }
    }

    private void misses() {
        due.sentence(0, "otherwise it is a miss.");
        Menuline x = menuWith();
        x.times(Scene.MENU, 10, 3, 1, 29);
        for (int digit = 0; digit <= 9; digit++) {
            x.press(x.call(Scene.MENU), digit);
            due.is("in a menu without keys", x.ways(Scene.MENU, 29), digit + 1);
        }
        Menuline y = menuWith(112);
        y.call(Scene.MENU);
        Due.pressAll(y, 0, "13");
        due.is("behind a miss the row is empty", y.press(0, 1), Scene.MENU);
        due.is("so that 12 is the key", y.press(0, 2), NONE);
        due.is("its way", y.ways(Scene.MENU, 20), 1);
        Menuline z = menuWith(112, 122);
        z.call(Scene.MENU);
        Due.pressAll(z, 0, "3");
        due.is("a digit that is a miss begins no row", z.press(0, 2), Scene.MENU);
        due.is("22", z.press(0, 2), NONE);
        due.is("its way", z.ways(Scene.MENU, 21), 1);
    }

    // ---- INPUT

    private void inputs() {
        due.sentence(0, "INPUT: the call tells a number of some least to some most digits; with the most digits it is done "
                + "at once: the number becomes the call's own number, which is 0 at first, and the call goes on.");
        Menuline x = Scene.quiet();
        x.input(20, 6, 6, Scene.SAY);
        x.call(20);
        due.is("at first", x.numberOf(0), 0);
        for (int digit = 0; digit < 5; digit++) {
            due.is("below the most digits", x.press(0, 9), 20);
            due.is("no number yet", x.numberOf(0), 0);
        }
        due.is("with the most digits", x.press(0, 9), Scene.SAY);
        due.is("the largest number", x.numberOf(0), 999999);
        due.is("and on", x.ways(20, Scene.SAY), 1);
        x.hang(0);
        x.input(20, 1, 1, Scene.SAY);
        for (int digit = 0; digit <= 9; digit++) {
            due.is("one digit", x.press(x.call(20), digit), Scene.SAY);
            due.is("its number", x.numberOf(1 + digit), digit);
        }
        due.is("the others keep theirs", x.numberOf(0), 999999);
    }

    private void inputNumbers() {
        due.sentence(0, "the number becomes the call's own number, which is 0 at first");
        String[] rows = {"0", "00", "000000", "1", "01", "000001", "10", "100000", "099999", "999999", "123456", "900000"};
        for (String row : rows) {
            Menuline x = Scene.quiet();
            x.input(20, 1, 6, 21);
            x.input(21, 1, 1, Scene.SAY);
            Due.pressAll(x, x.call(20), row.length() == 6 ? row : row + "#");
            due.is("the row " + row, x.numberOf(0), Integer.parseInt(row));
            Due.pressAll(x, 0, "#");
            due.is("a miss leaves the number", x.numberOf(0), Integer.parseInt(row));
            Due.pressAll(x, 0, "0");
            due.is("a later number takes its place", x.numberOf(0), 0);
            due.is("at the end", x.nodeOf(0), Scene.SAY);
        }
    }

    // ---- MENU and INPUT

    /** A menu with the keys 1, 12, 129 and 345, or an input of 2 digits at least, with a single try that fails to the node 29. */
    private static Menuline listening(int node, int wait, int gap) {
        Menuline x = Scene.quiet();
        x.key(Scene.MENU, 11, 28);
        x.key(Scene.MENU, 112, 27);
        x.key(Scene.MENU, 1129, 25);
        x.key(Scene.MENU, 1345, 26);
        x.input(Scene.INPUT, 2, 6, 27);
        x.times(node, wait, gap, 1, 29);
        return x;
    }

    private void waitsAndGaps() {
        due.sentence(0, "In MENU and INPUT, if nothing is told for the wait, when nothing is there yet, or for the gap, "
                + "when digits are there, the row is done as it is.");
        for (int node : new int[] {Scene.MENU, Scene.INPUT}) {
            for (int wait : new int[] {1, 10, 60}) {
                Menuline x = listening(node, wait, 20);
                x.call(node);
                Due.passTo(x, 0, wait - 1);
                due.is("nothing for one less than the wait", x.nodeOf(0), node);
                x.pass(1);
                due.is("nothing for the wait", x.ways(node, 29), 1);
            }
            for (int gap : new int[] {1, 3, 20}) {
                Menuline x = listening(node, 60, gap);
                x.call(node);
                x.pass(59);
                x.press(0, 3);
                Due.passTo(x, 0, gap - 1);
                x.press(0, 4);
                Due.passTo(x, 0, gap - 1);
                due.is("one less than the gap behind each digit", x.nodeOf(0), node);
                x.pass(1);
                due.is("the gap", x.ways(node, node == Scene.MENU ? 29 : 27), 1);
            }
        }
        due.sentence(0, "A row that is done so and is a key of the menu, or has the least digits of the input, "
                + "counts as that; otherwise it is a miss.");
        String[] rows = {"1", "34", "3", "12", "1", "123"};
        int[] at = {Scene.MENU, Scene.MENU, Scene.MENU, Scene.INPUT, Scene.INPUT, Scene.INPUT};
        int[] to = {28, 29, 29, 27, 29, 27};
        for (int i = 0; i < rows.length; i++) {
            Menuline x = listening(at[i], 10, 3);
            Due.pressAll(x, x.call(at[i]), rows[i]);
            x.pass(3);
            due.is("the row " + rows[i] + " of " + at[i], x.ways(at[i], to[i]), 1);
        }
    }

    private void waitsAnew() {
        due.sentence(0, "one waits anew for the first digit; so it is behind a miss");
        for (int node : new int[] {Scene.MENU, Scene.INPUT}) {
            Menuline x = listening(node, 10, 3);
            x.times(node, 10, 3, 3, 29);
            x.call(node);
            x.pass(9);
            x.press(0, 11);
            x.pass(9);
            due.is("behind a miss by #, one less than the wait", x.nodeOf(0), node);
            x.pass(1);
            due.is("a miss by the wait", x.nodeOf(0), node);
            x.pass(9);
            due.is("behind it, one less than the wait", x.nodeOf(0), node);
            x.pass(1);
            due.is("the third miss", x.ways(node, 29), 1);
            Menuline y = listening(node, 10, 3);
            y.call(node);
            y.pass(9);
            y.press(0, 1);
            y.press(0, 10);
            y.pass(9);
            due.is("behind *, one less than the wait", y.nodeOf(0), node);
            y.press(0, 10);
            y.pass(9);
            due.is("behind * without digits, too", y.nodeOf(0), node);
            y.pass(1);
            due.is("and the wait", y.ways(node, 29), 1);
            Menuline z = listening(node, 10, 3);
            z.times(node, 10, 3, 2, 29);
            Due.pressAll(z, z.call(node), "3");
            z.pass(3);
            due.is("a miss by the gap", z.nodeOf(0), node);
            z.pass(9);
            due.is("behind it, one less than the wait", z.nodeOf(0), node);
            Due.pressAll(z, 0, "12#");
            due.is("the row was empty", z.ways(node, 27), 1);
        }
    }

    private void hash() {
        due.sentence(0, "So it is with #.");
        String[] rows = {"", "1", "3", "34", "", "1", "12", "12345"};
        int[] at = {Scene.MENU, Scene.MENU, Scene.MENU, Scene.MENU, Scene.INPUT, Scene.INPUT, Scene.INPUT, Scene.INPUT};
        int[] to = {29, 28, 29, 29, 29, 29, 27, 27};
        for (int i = 0; i < rows.length; i++) {
            Menuline x = listening(at[i], 10, 3);
            Due.pressAll(x, x.call(at[i]), rows[i] + "#");
            due.is("the row " + rows[i] + " of " + at[i], x.ways(at[i], to[i]), 1);
        }
        Menuline x = listening(Scene.MENU, 10, 3);
        x.times(Scene.MENU, 10, 3, 3, 29);
        Due.pressAll(x, x.call(Scene.MENU), "##");
        due.is("two misses of three", x.nodeOf(0), Scene.MENU);
        Due.pressAll(x, 0, "#");
        due.is("three of them", x.ways(Scene.MENU, 29), 1);
    }

    private void star() {
        due.sentence(0, "With * the row is empty again, and one waits anew for the first digit");
        for (int node : new int[] {Scene.MENU, Scene.INPUT}) {
            Menuline x = listening(node, 10, 3);
            x.call(node);
            for (int i = 0; i < 7; i++) {
                due.is("* is no miss", x.press(0, 10), node);
                due.is("nor are digits ahead of it", x.press(0, 3), node);
            }
            Due.pressAll(x, 0, "*12#");
            due.is("only what is behind it counts", x.ways(node, 27), 1);
        }
        Menuline x = Scene.quiet();
        x.input(20, 1, 6, 29);
        Due.pressAll(x, x.call(20), "98765*43#");
        due.is("its number", x.numberOf(0), 43);
        Menuline y = Scene.quiet();
        y.input(20, 1, 6, 29);
        Due.pressAll(y, y.call(20), "98765*123456");
        due.is("the most digits behind it", y.numberOf(0), 123456);
        Menuline z = listening(Scene.INPUT, 10, 3);
        z.times(Scene.INPUT, 10, 3, 2, 29);
        Due.pressAll(z, z.call(Scene.INPUT), "#*");
        due.is("a miss ahead of it", z.nodeOf(0), Scene.INPUT);
        Due.pressAll(z, 0, "#");
        due.is("is not forgotten", z.ways(Scene.INPUT, 29), 1);
    }

    private void tries() {
        due.sentence(0, "but behind as many misses as there are tries, since the call came to the node, "
                + "it goes on to the node for failing.");
        for (int node : new int[] {Scene.MENU, Scene.INPUT}) {
            for (int tries = 1; tries <= 5; tries++) {
                Menuline x = listening(node, 10, 3);
                x.key(Scene.MENU, 19, node);
                x.input(Scene.INPUT, 1, 1, node);
                x.times(node, 10, 3, tries, 29);
                x.call(node);
                for (int coming = 0; coming < 3; coming++) {
                    for (int miss = 1; miss < tries; miss++) {
                        due.is("one miss less than the tries", x.press(0, 11), node);
                    }
                    due.is("to the node once more", x.press(0, 9), node);
                    due.is("by its way", x.ways(node, node), coming + 1);
                }
                for (int miss = 1; miss < tries; miss++) {
                    x.press(0, 11);
                }
                due.is("ahead of the last miss", x.ways(node, 29), 0);
                due.is("the last miss of " + tries, x.press(0, 11), NONE);
                due.is("to the node for failing", x.ways(node, 29), 1);
            }
        }
    }

    private void atFirst() {
        due.sentence(0, "At first the wait is 10, the gap 3, there are 2 tries, and one fails to NONE.");
        for (int node : new int[] {Scene.MENU, Scene.INPUT}) {
            Menuline x = Scene.quiet();
            x.key(Scene.MENU, 112, 29);
            x.input(Scene.INPUT, 2, 6, 29);
            x.call(node);
            x.pass(9);
            due.is("9 ticks", x.press(0, 1), node);
            x.pass(2);
            due.is("2 ticks behind a digit", x.press(0, 10), node);
            x.press(0, 1);
            x.pass(3);
            due.is("3 ticks are a miss", x.nodeOf(0), node);
            x.pass(9);
            due.is("9 ticks behind it", x.nodeOf(0), node);
            x.pass(1);
            due.is("10 ticks are the second one", x.nodeOf(0), NONE);
            due.is("to NONE", x.ways(node, NONE), 1);
            due.is("its end", x.end(0), Menuline.ENDED);
        }
    }

    // ---- BRANCH

    /** The branch at the node 20: yes to 21, no to 22. */
    private static Menuline asking(int what, int a, int b) {
        Menuline x = Scene.quiet();
        x.branch(20, what, a, b, 21, 22);
        return x;
    }

    private void answers(String when, Menuline x, boolean yes) {
        int before = x.ways(20, 21);
        x.call(20);
        due.is(when, x.ways(20, 21) - before, yes ? 1 : 0);
        due.is(when + ", and at once", x.state(x.calls() - 1), Menuline.OVER);
    }

    private void branchOpenAndDay() {
        due.sentence(0, "OPEN, the hours are open now");
        Menuline x = asking(Menuline.OPEN, 999999, 60);
        int[] times = {0, 79, 80, 179, 180, 239, 240 + 79, 240 + 80, 5 * 240 + 100, 6 * 240 + 100, 7 * 240 + 79, 7 * 240 + 80};
        int time = 0;
        for (int at : times) {
            time = Due.passTo(x, time, at);
            answers("at " + at, x, x.isOpen());
            due.is("at " + at, x.isOpen(), at % 240 >= 80 && at % 240 < 180 && at / 240 % 7 < 5);
        }
        due.sentence(0, "DAY, the weekday is a");
        for (int day = 0; day <= 6; day++) {
            Menuline y = asking(Menuline.DAY, day, 0);
            int now = 0;
            for (int weekday = 0; weekday <= 8; weekday++) {
                now = Due.passTo(y, now, weekday * 240);
                answers("at the first tick of " + weekday, y, weekday % 7 == day);
                now = Due.passTo(y, now, weekday * 240 + 239);
                answers("at the last tick of " + weekday, y, weekday % 7 == day);
            }
        }
    }

    private void branchNumber() {
        due.sentence(0, "NUMBER, its number is a or more");
        int[] numbers = {0, 1, 42, 999998, 999999};
        for (int a : numbers) {
            for (int by = -1; by <= 1; by++) {
                int number = a + by;
                if (number >= 0 && number <= 999999) {
                    Menuline x = asking(Menuline.NUMBER, a, 0);
                    x.input(19, 6, 6, 20);
                    Due.pressAll(x, x.call(19), String.valueOf(1000000 + number).substring(1));
                    due.is(number + " at " + a, x.ways(20, 21), number >= a ? 1 : 0);
                    due.is(number + " at " + a, x.ways(20, 22), number >= a ? 0 : 1);
                }
            }
        }
        answers("without a number, at 0", asking(Menuline.NUMBER, 0, 60), true);
        answers("without a number, at 1", asking(Menuline.NUMBER, 1, 60), false);
    }

    private void branchWaits() {
        due.sentence(0, "WAITS, at least b calls wait for the skill a");
        for (int b = 0; b <= 3; b++) {
            for (int waiting = 0; waiting <= 4; waiting++) {
                Menuline x = asking(Menuline.WAITS, 5, b);
                x.queue(18, 5, 9, 500, 30, Scene.CALLBACK);
                x.leaving(18, Scene.CALLBACK);
                x.queue(19, 4, 0, 500, 30, NONE);
                x.call(19);
                for (int call = 0; call < waiting; call++) {
                    int one = x.call(18);
                    if (call % 2 == 1) {
                        x.press(one, 1);
                    }
                }
                answers(waiting + " wait, at least " + b, x, waiting >= b);
            }
        }
        Menuline y = asking(Menuline.WAITS, 0, 1);
        y.signOn(0, 1);
        y.call(Scene.QUEUE);
        answers("who talks does not wait", y, false);
        y.finish(0);
        y.press(y.call(Scene.QUEUE), 1);
        answers("who is AWAY waits", y, true);
        y.pass(5);
        answers("who rings does not wait", y, false);
    }

    private void branchWaitsForMost() {
        due.sentence(0, "WAITS, at least b calls wait for the skill a");
        for (int b : new int[] {58, 59, 60}) {
            Menuline x = asking(Menuline.WAITS, 0, b);
            for (int call = 0; call < 59; call++) {
                int one = x.call(Scene.QUEUE);
                if (x.state(one) == Menuline.WAITING) {
                    x.press(one, 1);
                }
            }
            due.is("all but one wait", x.waiting(0), 59);
            answers("at least " + b, x, b <= 59);
        }
    }

    private void branchFree() {
        due.sentence(0, "FREE, some agent that is READY has the skill a.");
        for (int skill = 0; skill <= 5; skill++) {
            Menuline x = asking(Menuline.FREE, skill, 60);
            x.queue(19, skill, 0, 500, 30, NONE);
            answers("nobody is there", x, false);
            x.signOn(0, 63 - (1 << skill));
            answers("all other skills", x, false);
            x.signOn(5, 1 << skill);
            answers("READY", x, true);
            x.call(19);
            answers("BUSY", x, false);
            x.finish(5);
            answers("WRAPPING", x, false);
            x.pass(4);
            answers("still WRAPPING", x, false);
            x.pass(1);
            answers("READY again", x, true);
            x.signOff(5);
            answers("OFF", x, false);
            x.signOn(0, 1 << skill);
            answers("with that skill now", x, true);
        }
        Menuline y = asking(Menuline.FREE, 0, 0);
        y.press(y.call(Scene.QUEUE), 1);
        y.signOn(0, 1);
        answers("CALLING", y, false);
        y.pass(6);
        answers("not picked up, READY", y, true);
    }

    // ---- SUB and BACK

    private void subAndBack() {
        due.sentence(0, "SUB: the call goes on to a node, and there is a node to which it comes back; BACK: it goes to the "
                + "latest of these to which it has not come back yet; to NONE if there is none.");
        Menuline x = new Menuline();
        for (int node = 0; node < 4; node++) {
            x.sub(node, node + 1, 20 + node);
            x.say(20 + node, 1, 10);
        }
        x.say(4, 1, 10);
        x.back(10);
        x.call(0);
        int[] nodes = {4, 23, 22, 21, 20};
        for (int node : nodes) {
            due.is("the latest first", x.nodeOf(0), node);
            x.pass(1);
        }
        due.is("then none", x.end(0), Menuline.ENDED);
        due.is("to NONE", x.ways(10, NONE), 1);
        x.call(10);
        due.is("none from the first", x.ways(10, NONE), 2);
        x.call(3);
        x.pass(1);
        due.is("one", x.nodeOf(2), 23);
        x.pass(1);
        due.is("none behind one", x.ways(10, NONE), 3);
        x.call(0);
        x.call(4);
        x.pass(1);
        due.is("another call's are its own", x.end(4), Menuline.ENDED);
        due.is("and the first one's", x.nodeOf(3), 23);
    }

    private void atMostFour() {
        due.sentence(0, "At most 4 can be there; at a fifth SUB the call is over, as DEEP, and goes nowhere.");
        for (int subs = 1; subs <= 6; subs++) {
            Menuline x = new Menuline();
            for (int node = 0; node < subs; node++) {
                x.sub(node, node + 1, NONE);
            }
            x.say(subs, 60, NONE);
            x.call(0);
            due.is(subs + " of them", x.end(0), subs <= 4 ? NONE : Menuline.DEEP);
            due.is("it is at", x.nodeOf(0), subs <= 4 ? subs : NONE);
            due.is("the way to the fifth", x.ways(3, 4), subs >= 4 ? 1 : 0);
            due.is("no way from the fifth", x.ways(4, 5) + x.ways(4, NONE), 0);
        }
        Menuline y = new Menuline();
        for (int node = 0; node < 4; node++) {
            y.sub(node, node + 1, 10);
        }
        y.sub(4, 9, NONE);
        y.back(9);
        y.call(0);
        due.is("a fifth one ahead of a BACK", y.end(0), Menuline.DEEP);
        y.say(4, 1, 9);
        y.sub(5, 8, NONE);
        y.say(8, 60, NONE);
        y.sub(10, 8, NONE);
        y.call(0);
        y.pass(1);
        due.is("behind a BACK there is room for one", y.nodeOf(1), 8);
        y.hang(1);
        y.sub(10, 5, NONE);
        y.call(0);
        y.pass(1);
        due.is("but not for two", y.end(2), Menuline.DEEP);
    }

    // ---- QUEUE

    private void claims() {
        due.sentence(0, "QUEUE: the call has a claim from now on, in place of an earlier one: a skill, a priority, and that it "
                + "waits since now.");
        Menuline x = Scene.quiet();
        x.queue(20, 1, 9, 10, 30, 21);
        x.queue(21, 2, 0, 10, 30, Scene.CALLBACK);
        x.queue(22, 2, 0, 500, 30, NONE);
        x.call(20);
        due.is("its skill", x.waiting(1), 1);
        x.call(22);
        x.pass(10);
        due.is("not the skill of before", x.waiting(1), 0);
        due.is("the later one", x.waiting(2), 2);
        due.is("not the priority of before, since now", x.placeOf(0), 1);
        due.is("the other one is ahead", x.placeOf(1), 0);
        x.pass(10);
        due.is("AWAY by the later claim", x.state(0), Menuline.AWAY);
        due.is("its place", x.placeOf(0), 1);
        due.is("nobody waits by the earlier one", x.waiting(1), 0);
        Menuline y = Scene.quiet();
        y.queue(20, 0, 0, 500, 1, Scene.CALLBACK);
        y.call(20);
        y.pass(50);
        y.call(20);
        due.is("a claim of a full queue", y.state(1), Menuline.AWAY);
        due.is("since now", y.placeOf(1), 1);
        y.call(Scene.QUEUE);
        due.is("ahead of a later one", y.placeOf(2), 2);
    }

    private void caps() {
        due.sentence(0, "If as many calls as the cap, or more, wait for that skill already, it goes on to the node for "
                + "overflow at once.");
        for (int cap : new int[] {1, 2, 15, 29, 30}) {
            for (int waiting : new int[] {cap - 1, cap, cap + 1, 59}) {
                Menuline x = Scene.quiet();
                x.queue(20, 0, 0, 500, cap, 29);
                for (int call = 0; call < waiting; call++) {
                    int one = x.call(Scene.QUEUE);
                    if (x.state(one) == Menuline.WAITING && waiting > 30) {
                        x.press(one, 1);
                    }
                }
                due.is("so many wait", x.waiting(0), waiting);
                int call = x.call(20);
                due.is(waiting + " wait at the cap " + cap, x.state(call), waiting < cap ? Menuline.WAITING : Menuline.OVER);
                due.is("overflow", x.ways(20, 29), waiting < cap ? 0 : 1);
            }
        }
    }

    private void capsCountWhoWaits() {
        due.sentence(0, "wait for that skill already, it goes on to the node for overflow at once.");
        Menuline x = Scene.quiet();
        x.queue(20, 0, 0, 500, 1, 29);
        x.queue(21, 1, 0, 500, 1, 29);
        x.call(21);
        due.is("for another skill", x.state(x.call(20)), Menuline.WAITING);
        due.is("for that skill", x.state(x.call(20)), Menuline.OVER);
        x.press(x.call(Scene.QUEUE), 1);
        x.hang(1);
        due.is("AWAY", x.end(x.call(20)), Menuline.ENDED);
        x.signOn(0, 1);
        due.is("it rings", x.state(3), Menuline.RINGING);
        due.is("RINGING", x.state(x.call(20)), Menuline.WAITING);
        Menuline y = Scene.quiet();
        y.queue(20, 0, 0, 5, 1, 20);
        y.call(20);
        y.pass(5);
        due.is("who comes does not wait already", y.state(0), Menuline.WAITING);
        due.is("once more", y.ways(20, 20), 1);
        Menuline z = Scene.quiet();
        z.queue(20, 0, 0, 500, 1, 29);
        z.signOn(0, 1);
        z.call(20);
        due.is("TALKING", z.state(z.call(20)), Menuline.WAITING);
    }

    private void mostTicks() {
        due.sentence(0, "Otherwise it waits; after the most ticks, it goes on to the node for overflow.");
        for (int most : new int[] {1, 7, 500}) {
            Menuline x = Scene.quiet();
            x.queue(20, 3, 0, most, 1, 29);
            x.pass(13);
            x.call(20);
            Due.passTo(x, 13, 13 + most - 1);
            x.press(0, 1);
            x.press(0, 11);
            due.is("one tick ahead of " + most, x.nodeOf(0), 20);
            due.is("it waits", x.waiting(3), 1);
            x.pass(1);
            due.is("the most ticks " + most, x.ways(20, 29), 1);
            due.is("it waits no more", x.waiting(3), 0);
        }
        Menuline y = Scene.quiet();
        y.queue(20, 3, 0, 5, 1, NONE);
        y.call(20);
        y.pass(5);
        due.is("overflow to NONE", y.end(0), Menuline.ENDED);
        due.is("its way", y.ways(20, NONE), 1);
    }

    private void leaving() {
        due.sentence(0, "With the digit 1, it goes on to the node for leaving, if one was told; nothing else that it tells "
                + "matters.");
        Menuline x = Scene.quiet();
        x.queue(20, 0, 0, 500, 30, NONE);
        x.queue(21, 0, 0, 500, 30, NONE);
        x.leaving(21, Scene.SAY);
        x.call(20);
        x.call(21);
        for (int key = 0; key <= 11; key++) {
            due.is("without a node for leaving: " + key, x.press(0, key), 20);
            if (key != 1) {
                due.is("with one: " + key, x.press(1, key), 21);
            }
        }
        due.is("both wait", x.waiting(0), 2);
        due.is("1 with one", x.press(1, 1), Scene.SAY);
        due.is("one waits", x.waiting(0), 1);
        due.is("its way", x.ways(21, Scene.SAY), 1);
        due.is("its state", x.state(1), Menuline.IN_FLOW);
    }

    // ---- CALLBACK, NONE

    private void callback() {
        due.sentence(0, "CALLBACK: if the call has a claim, the caller puts the phone down, is AWAY, and waits by that claim, "
                + "with its old time; otherwise the call is over, as ENDED.");
        Menuline x = Scene.quiet();
        x.say(20, 60, Scene.CALLBACK);
        x.queue(21, 4, 2, 1, 30, 20);
        x.queue(22, 4, 9, 500, 30, NONE);
        x.call(21);
        x.pass(61);
        due.is("61 ticks later", x.state(0), Menuline.AWAY);
        due.is("at no node", x.nodeOf(0), NONE);
        due.is("it waits", x.waiting(4), 1);
        x.call(22);
        due.is("3 * 71 is ahead of 10 * 10", x.placeOf(0), 0);
        x.pass(16);
        due.is("3 * 87 is ahead of 10 * 26", x.placeOf(0), 0);
        x.pass(1);
        due.is("3 * 88 is behind 10 * 27", x.placeOf(0), 1);
        due.is("by replay", x.placeByReplay(0), 1);
        x.call(Scene.CALLBACK);
        due.is("without a claim", x.end(2), Menuline.ENDED);
        due.is("which is no way", x.ways(Scene.CALLBACK, NONE), 0);
        due.is("its state", x.state(2), Menuline.OVER);
        x.pass(100);
        due.is("a claim has no end", x.state(0), Menuline.AWAY);
    }

    private void none() {
        due.sentence(0, "A call that goes to NONE is over, as ENDED.");
        Menuline x = Scene.quiet();
        x.say(20, 1, NONE);
        x.key(Scene.MENU, 11, NONE);
        x.input(21, 1, 1, NONE);
        x.branch(22, Menuline.DAY, 0, 0, NONE, 0);
        x.branch(23, Menuline.DAY, 1, 0, 0, NONE);
        x.sub(24, NONE, 0);
        x.queue(25, 0, 0, 1, 30, NONE);
        for (int node : new int[] {20, Scene.MENU, 21, 22, 23, 24, 25, Scene.BACK, Scene.BLANK}) {
            int call = x.call(node);
            if (node == Scene.MENU || node == 21) {
                x.press(call, 1);
            }
            if (node == 20 || node == 25) {
                due.is("not yet", x.end(call), NONE);
                x.pass(1);
            }
            due.is("over at " + node, x.state(call), Menuline.OVER);
            due.is("as", x.end(call), Menuline.ENDED);
            due.is("by the way to NONE", x.ways(node, NONE), 1);
        }
    }

    // ---- the 21st node

    private static final String LOOP_SENTENCE = "A call that would come to a 21st node in one moment, without having stayed "
            + "at one, is over, as LOOP, instead of that; this is no way from a node to a node.";

    private void loopByCall() {
        due.sentence(0, LOOP_SENTENCE);
        for (int nodes = 18; nodes <= 23; nodes++) {
            Menuline x = new Menuline();
            Due.chain(x, 0, nodes - 2, nodes - 1);
            x.say(nodes - 1, 60, NONE);
            x.call(0);
            due.is(nodes + " nodes", x.end(0), nodes <= 20 ? NONE : Menuline.LOOP);
            due.is("it is at", x.nodeOf(0), nodes <= 20 ? nodes - 1 : NONE);
            int ways = 0;
            for (int node = 0; node < nodes - 1; node++) {
                ways += x.ways(node, node + 1);
            }
            due.is("ways through " + nodes, ways, Math.min(nodes - 1, 19));
            due.is("no way to NONE", x.ways(19, NONE), 0);
            due.is("begun", x.begun(0), 1);
        }
    }

    private void loopByPressAndTick() {
        due.sentence(0, LOOP_SENTENCE);
        for (int nodes = 19; nodes <= 22; nodes++) {
            for (int how = 0; how < 3; how++) {
                Menuline x = new Menuline();
                Due.chain(x, 0, nodes - 2, nodes - 1);
                x.say(nodes - 1, 60, NONE);
                x.menu(29);
                x.key(29, 11, 0);
                x.times(29, 1, 1, 1, 0);
                x.queue(28, 0, 0, 1, 1, 0);
                x.call(how == 2 ? 28 : 29);
                if (how == 0) {
                    x.press(0, 1);
                } else {
                    x.pass(1);
                }
                due.is(nodes + " nodes from a stay on", x.end(0), nodes <= 20 ? NONE : Menuline.LOOP);
                due.is("the way from the stay", x.ways(how == 2 ? 28 : 29, 0), 1);
                due.is("the last way", x.ways(nodes - 2, nodes - 1), nodes <= 20 ? 1 : 0);
            }
        }
        Menuline y = new Menuline();
        Due.chain(y, 0, 18, 19);
        y.say(19, 1, 0);
        y.call(0);
        for (int round = 0; round < 4; round++) {
            due.is("a stay at the 20th begins anew", y.nodeOf(0), 19);
            y.pass(1);
        }
    }

    private void loopByTransfer() {
        due.sentence(0, LOOP_SENTENCE);
        for (int nodes = 19; nodes <= 22; nodes++) {
            Menuline x = new Menuline();
            Due.chain(x, 0, nodes - 2, nodes - 1);
            x.say(nodes - 1, 60, NONE);
            Due.chain(x, 23, 28, 29);
            x.queue(29, 0, 0, 500, 30, NONE);
            x.signOn(0, 1);
            x.call(23);
            x.transfer(0, 0);
            due.is(nodes + " nodes from a transfer on", x.end(0), nodes <= 20 ? NONE : Menuline.LOOP);
            due.is("the last way", x.ways(nodes - 2, nodes - 1), nodes <= 20 ? 1 : 0);
            due.is("begun", x.begun(0), 1);
        }
    }

    private void loopAtEachKind() {
        due.sentence(0, LOOP_SENTENCE);
        int[] kinds = {Scene.QUEUE, Scene.CALLBACK, Scene.MENU, Scene.INPUT, Scene.SUB, Scene.BACK, Scene.BLANK};
        int[] ends = {NONE, Menuline.ENDED, NONE, NONE, Menuline.LOOP, Menuline.ENDED, Menuline.ENDED};
        for (int i = 0; i < kinds.length; i++) {
            for (int nodes = 20; nodes <= 21; nodes++) {
                Menuline x = new Menuline();
                Due.chain(x, 0, nodes - 2, 25);
                if (kinds[i] != Scene.BLANK) {
                    Scene.tell(x, kinds[i], 25);
                }
                x.call(0);
                due.is(nodes + " nodes, the last of the kind " + kinds[i], x.end(0), nodes == 20 ? ends[i] : Menuline.LOOP);
            }
        }
        fullQueueAndFifthSub();
    }

    private void fullQueueAndFifthSub() {
        Menuline x = new Menuline();
        Due.chain(x, 0, 18, 25);
        x.queue(25, 0, 0, 500, 1, 26);
        x.call(25);
        due.is("overflow to a 21st node", x.end(x.call(0)), Menuline.LOOP);
        due.is("which is no way", x.ways(25, 26), 0);
        due.is("overflow to a 20th node", x.end(x.call(1)), Menuline.ENDED);
        due.is("which is one", x.ways(25, 26), 1);
        for (int chain = 15; chain <= 16; chain++) {
            Menuline y = new Menuline();
            Due.chain(y, 0, chain - 1, 25);
            for (int sub = 25; sub <= 29; sub++) {
                y.sub(sub, sub == 29 ? 0 : sub + 1, NONE);
            }
            due.is("a fifth SUB at the node " + (chain + 5), y.end(y.call(0)), chain == 15 ? Menuline.DEEP : Menuline.LOOP);
        }
    }
}
