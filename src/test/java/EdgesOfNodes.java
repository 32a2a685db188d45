import java.util.function.Supplier;

/** Promises 1 to 12, sentence by sentence: what is told of nodes, its smallest and largest numbers, and refusals. */
final class EdgesOfNodes {
    private static final int NONE = Menuline.NONE;
    private static final int[] KINDS = {Scene.QUEUE, Scene.CALLBACK, Scene.SAY, Scene.MENU, Scene.INPUT, Scene.BRANCH,
        Scene.SUB, Scene.BACK, Scene.BLANK};
    private final Due due;

    EdgesOfNodes(Due due) {
        this.due = due;
    }

    void run() {
        scenes();
        newObject();
        say();
        menu();
        keyNumbers();
        keyCounts();
        keyRefused();
        inputNumbers();
        inputRefused();
        timesNumbers();
        timesRefused();
        branchNumbers();
        branchRefused();
        sub();
        back();
        queueNumbers();
        queueRefused();
        leaving();
        callback();
    }

    private void scenes() {
        due.sentence(0, "IN_FLOW = 0, WAITING = 1, TALKING = 2, AWAY = 3, RINGING = 4, OVER = 5: What a call does.");
        for (int state = Menuline.IN_FLOW; state <= Menuline.OVER; state++) {
            due.is("state", Scene.with(state).state(0), state);
        }
        due.sentence(0, "ENDED = 0, HUNG = 1, LOOP = 2, DEEP = 3, DONE = 4, LOST = 5: How a call was over.");
        for (int how = Menuline.ENDED; how <= Menuline.LOST; how++) {
            due.is("end", Scene.over(how).end(0), how);
            due.is("state", Scene.over(how).state(0), Menuline.OVER);
        }
        due.sentence(0, "OFF = 0, READY = 1, BUSY = 2, CALLING = 3, WRAPPING = 4: What an agent does.");
        for (int does = Menuline.OFF; does <= Menuline.WRAPPING; does++) {
            due.is("agent", Scene.agent(does).agent(0), does);
        }
        due.sentence(0, "NONE = -1: There is none; as a node: the end of a call.");
        due.is("NONE", Menuline.NONE, -1);
    }

    // ---- what all of them share

    /** A node, and the nodes to which it leads; the scene has at each node what may be told of. */
    private void asTold(int promise, Supplier<Menuline> scene, Due.Try ofNode, Due.Try... leadsTo) {
        due.sentence(promise, "Throws IndexOutOfBoundsException as told");
        due.range("of the node", scene, 0, 29, Due.INDEX, ofNode);
        for (int which = 0; which < leadsTo.length; which++) {
            due.range("leading to, " + which + ":", scene, NONE, 29, Due.INDEX, leadsTo[which]);
        }
    }

    /** What is told of this node of quiet() is told only while all calls are over. */
    private void onlyWhileOver(int promise, String words, int node, Due.Try ofNode) {
        due.sentence(promise, words);
        for (int state = Menuline.IN_FLOW; state < Menuline.OVER; state++) {
            Menuline x = Scene.with(state);
            due.refused("while the call does " + state, x, Due.STATE, () -> ofNode.with(x, node));
        }
        for (int how = Menuline.ENDED; how <= Menuline.LOST; how++) {
            Menuline x = Scene.over(how);
            due.taken("while the call is over as " + how, () -> ofNode.with(x, node));
        }
    }

    private void refusedAtKinds(String what, Due.Try ofNode, int... but) {
        for (int kind : KINDS) {
            boolean right = false;
            for (int one : but) {
                right |= one == kind;
            }
            Menuline x = Scene.quiet();
            if (right) {
                due.taken(what + " at the kind " + kind, () -> ofNode.with(x, kind));
            } else {
                due.refused(what + " at the kind " + kind, x, Due.STATE, () -> ofNode.with(x, kind));
            }
        }
    }

    // ---- 1

    private void newObject() {
        due.sentence(1, "Nothing is told of any node; no calls, all agents OFF.");
        Menuline x = new Menuline();
        due.is("calls", x.calls(), 0);
        due.refused("state of the call 0", x, Due.INDEX, () -> x.state(0));
        for (int i = 0; i < 6; i++) {
            due.is("agent", x.agent(i), Menuline.OFF);
            due.is("callOf", x.callOf(i), NONE);
            due.is("waiting", x.waiting(i), 0);
            due.is("wrap", x.wrap(i, 5), 5);
        }
        for (int from = 0; from < 30; from++) {
            int node = from;
            due.is("begun", x.begun(node), 0);
            due.is("ways to NONE", x.ways(node, NONE), 0);
            due.is("ways to 29", x.ways(node, 29), 0);
            due.refused("times", x, Due.STATE, () -> x.times(node, 1, 1, 1, 0));
            due.refused("key", x, Due.STATE, () -> x.key(node, 10, 0));
            due.refused("leaving", x, Due.STATE, () -> x.leaving(node, 0));
        }
        for (int day = 0; day < 84; day++) {
            due.is("holiday", x.holiday(day, false), false);
        }
        due.is("the time behind one tick", x.pass(1), 1);
    }

    // ---- 2

    private void say() {
        due.sentence(2, "Tells a SAY.");
        for (int ticks = 1; ticks <= 60; ticks++) {
            Menuline x = Scene.quiet();
            x.say(29, ticks, 0);
            x.call(29);
            due.is("it stays in a SAY of " + ticks, x.nodeOf(0), 29);
            Due.passTo(x, 0, ticks - 1);
            due.is("to the last tick", x.nodeOf(0), 29);
            x.pass(1);
            due.is("and goes on", x.nodeOf(0), 0);
        }
        due.sentence(2, "ticks: 1 to 60");
        due.taken("1", () -> Scene.quiet().say(0, 1, 0));
        due.taken("60", () -> Scene.quiet().say(0, 60, 0));
        due.sentence(2, "Throws IllegalArgumentException if ticks is out of range");
        due.range("ticks", Scene::quiet, 1, 60, Due.ARGUMENT, (x, n) -> x.say(0, n, 0));
        asTold(2, Scene::quiet, (x, n) -> x.say(n, 1, 0), (x, n) -> x.say(0, 1, n));
        onlyWhileOver(2, "Throws IllegalStateException as told", 0, (x, n) -> x.say(n, 1, 0));
    }

    // ---- 3

    private void menu() {
        due.sentence(3, "Tells a MENU without keys.");
        Menuline x = Scene.quiet();
        x.times(Scene.MENU, 10, 3, 1, 29);
        for (int digit = 0; digit <= 9; digit++) {
            due.is("any digit is a miss", x.press(x.call(Scene.MENU), digit), NONE);
        }
        due.is("of each of them", x.ways(Scene.MENU, 29), 10);
        for (int keys = 1; keys <= 10; keys++) {
            x.key(Scene.MENU, 99 + keys, 0);
        }
        x.menu(Scene.MENU);
        x.times(Scene.MENU, 10, 3, 1, 28);
        due.is("none of ten keys is left", x.press(x.call(Scene.MENU), 0), NONE);
        due.is("nor is the beginning of one", x.ways(Scene.MENU, 28), 1);
        due.is("the first key behind ten of them", x.key(Scene.MENU, 10, 0), 1);
        asTold(3, Scene::quiet, Menuline::menu);
        onlyWhileOver(3, "Throws IllegalStateException as told", Scene.MENU, Menuline::menu);
    }

    // ---- 4

    private static boolean isKey(int key) {
        return key >= 10 && key <= 19 || key >= 100 && key <= 199 || key >= 1000 && key <= 1999;
    }

    private void keyNumbers() {
        due.sentence(4, "key: 10 to 19, 100 to 199 or 1000 to 1999, as told");
        for (int number = -20; number <= 2100; number++) {
            int key = number;
            if (isKey(key)) {
                Menuline x = Scene.quiet();
                x.times(Scene.MENU, 60, 20, 5, NONE);
                due.is("key " + key, x.key(Scene.MENU, key, 29), 1);
                String digits = String.valueOf(key).substring(1);
                int call = x.call(Scene.MENU);
                Due.pressAll(x, call, digits.substring(1));
                due.is("not by its last digits " + key, x.ways(Scene.MENU, 29), 0);
                x.press(call, 10);
                Due.pressAll(x, x.call(Scene.MENU), digits);
                due.is("by all of its digits " + key, x.ways(Scene.MENU, 29), 1);
            }
        }
        due.sentence(4, "Throws IllegalArgumentException if key is out of range");
        Menuline x = Scene.quiet();
        for (int number = -20; number <= 2100; number++) {
            int key = number;
            if (!isKey(key)) {
                due.refused("key " + key, x, Due.ARGUMENT, () -> x.key(Scene.MENU, key, 0));
            }
        }
        for (int key : new int[] {10000, 19999, -1000, -1999, Integer.MIN_VALUE, Integer.MAX_VALUE}) {
            due.refused("key " + key, x, Due.ARGUMENT, () -> x.key(Scene.MENU, key, 0));
        }
    }

    private void keyCounts() {
        due.sentence(4, "Returns how many keys the menu has then.");
        Menuline x = Scene.quiet();
        for (int count = 1; count <= 10; count++) {
            due.is("one more", x.key(Scene.MENU, 1990 + count - 1, NONE), count);
            due.is("the first once more", x.key(Scene.MENU, 1990, NONE), count);
            due.is("the last once more", x.key(Scene.MENU, 1990 + count - 1, NONE), count);
        }
        due.sentence(4, "Adds a key to a MENU, or tells another node for it.");
        for (int key = 0; key < 10; key++) {
            due.is("another node for each of ten", x.key(Scene.MENU, 1990 + key, 29 - key), 10);
        }
        for (int key = 0; key < 10; key++) {
            Due.pressAll(x, x.call(Scene.MENU), "99" + key);
            due.is("the other node", x.ways(Scene.MENU, 29 - key), 1);
        }
        due.is("no way to the one before", x.ways(Scene.MENU, NONE), 0);
        due.sentence(4, "Throws IllegalStateException as told, or if the node is no MENU, or the menu has 10 other keys");
        due.refused("an eleventh key", x, Due.STATE, () -> x.key(Scene.MENU, 10, 0));
        due.refused("an eleventh key that begins others", x, Due.STATE, () -> x.key(Scene.MENU, 199, 0));
        due.is("one of the ten", x.key(Scene.MENU, 1995, 0), 10);
        x.menu(9);
        due.is("in another menu", x.key(9, 10, 0), 1);
        Menuline y = Scene.quiet();
        for (int key = 10; key < 19; key++) {
            y.key(Scene.MENU, key, 0);
        }
        due.is("a tenth key", y.key(Scene.MENU, 1999, 0), 10);
    }

    private void keyRefused() {
        asTold(4, () -> Scene.allOf(Scene.MENU), (x, n) -> x.key(n, 10, 0), (x, n) -> x.key(0, 10, n));
        onlyWhileOver(4, "Throws IllegalStateException as told, or if the node is no MENU", Scene.MENU,
                (x, n) -> x.key(n, 10, 0));
        refusedAtKinds("key", (x, n) -> x.key(n, 10, 0), Scene.MENU);
    }

    // ---- 5

    private void inputNumbers() {
        due.sentence(5, "Tells an INPUT.");
        for (int least = 1; least <= 6; least++) {
            for (int most = least; most <= 6; most++) {
                inputOf(least, most);
            }
        }
    }

    private void inputOf(int least, int most) {
        String what = "of " + least + " to " + most + " digits: ";
        Menuline x = Scene.quiet();
        x.input(9, least, most, 29);
        x.times(9, 60, 20, 1, 28);
        Due.pressAll(x, x.call(9), "987654".substring(0, least - 1) + "#");
        due.is(what + "one less than the least", x.ways(9, 28), 1);
        due.is(what + "no number by that", x.numberOf(0), 0);
        Due.pressAll(x, x.call(9), "987654".substring(0, least) + (least < most ? "#" : ""));
        due.is(what + "the least", x.ways(9, 29), 1);
        due.is(what + "its number", x.numberOf(1), Integer.parseInt("987654".substring(0, least)));
        int call = x.call(9);
        Due.pressAll(x, call, "987654".substring(0, most - 1));
        due.is(what + "one less than the most", x.nodeOf(call), 9);
        due.is(what + "the most", x.press(call, "987654".charAt(most - 1) - '0'), NONE);
        due.is(what + "its way", x.ways(9, 29), 2);
        due.is(what + "its number", x.numberOf(call), Integer.parseInt("987654".substring(0, most)));
    }

    private void inputRefused() {
        due.sentence(5, "Throws IllegalArgumentException if least or most is out of range");
        for (int least = -1; least <= 8; least++) {
            for (int most = -1; most <= 8; most++) {
                int from = least;
                int to = most;
                Menuline x = Scene.quiet();
                if (least >= 1 && most >= least && most <= 6) {
                    due.taken("input " + least + " " + most, () -> x.input(0, from, to, 0));
                } else {
                    due.refused("input " + least + " " + most, x, Due.ARGUMENT, () -> x.input(0, from, to, 0));
                }
            }
        }
        due.sentence(5, "least: 1 to 6");
        due.range("least", Scene::quiet, 1, 6, Due.ARGUMENT, (x, n) -> x.input(0, n, 6, 0));
        due.sentence(5, "most: least to 6");
        for (int least = 1; least <= 6; least++) {
            int from = least;
            due.range("most of " + least, Scene::quiet, least, 6, Due.ARGUMENT, (x, n) -> x.input(0, from, n, 0));
        }
        asTold(5, Scene::quiet, (x, n) -> x.input(n, 1, 1, 0), (x, n) -> x.input(0, 1, 1, n));
        onlyWhileOver(5, "Throws IllegalStateException as told", 0, (x, n) -> x.input(n, 1, 1, 0));
    }

    // ---- 6

    private void timesNumbers() {
        due.sentence(6, "Changes the times of a MENU or an INPUT.");
        for (int node : new int[] {Scene.MENU, Scene.INPUT}) {
            for (int wait : new int[] {1, 2, 59, 60}) {
                Menuline x = timed(node, wait, 20, 1);
                x.call(node);
                Due.passTo(x, 0, wait - 1);
                due.is("ahead of the wait " + wait, x.nodeOf(0), node);
                x.pass(1);
                due.is("behind the wait " + wait, x.ways(node, 29), 1);
            }
            for (int gap : new int[] {1, 2, 19, 20}) {
                Menuline x = timed(node, 60, gap, 1);
                x.press(x.call(node), 1);
                Due.passTo(x, 0, gap - 1);
                due.is("ahead of the gap " + gap, x.nodeOf(0), node);
                x.pass(1);
                due.is("behind the gap " + gap, x.ways(node, 29), 1);
            }
            for (int tries = 1; tries <= 5; tries++) {
                Menuline x = timed(node, 1, 20, tries);
                x.call(node);
                Due.passTo(x, 0, tries - 1);
                due.is("ahead of the tries " + tries, x.nodeOf(0), node);
                x.pass(1);
                due.is("behind the tries " + tries, x.ways(node, 29), 1);
            }
        }
        Menuline x = timed(Scene.MENU, 1, 1, 5);
        due.is("the keys are left as they were", x.key(Scene.MENU, 1200, 0), 3);
        Menuline y = timed(Scene.INPUT, 1, 1, 5);
        Due.pressAll(y, y.call(Scene.INPUT), "1#1#12#");
        due.is("so are least and most", y.numberOf(0), 12);
    }

    /** With the key 12 and the least of 2 digits, so that 1 is a miss. */
    private static Menuline timed(int node, int wait, int gap, int tries) {
        Menuline x = Scene.quiet();
        x.key(Scene.MENU, 112, 28);
        x.key(Scene.MENU, 113, 28);
        x.input(Scene.INPUT, 2, 6, 28);
        x.times(node, wait, gap, tries, 29);
        return x;
    }

    private void timesRefused() {
        due.sentence(6, "Throws IllegalArgumentException if wait, gap or tries is out of range");
        for (int node : new int[] {Scene.MENU, Scene.INPUT}) {
            due.range("the wait of " + node, Scene::quiet, 1, 60, Due.ARGUMENT, (x, n) -> x.times(node, n, 1, 1, 0));
            due.range("the gap of " + node, Scene::quiet, 1, 20, Due.ARGUMENT, (x, n) -> x.times(node, 1, n, 1, 0));
            due.range("the tries of " + node, Scene::quiet, 1, 5, Due.ARGUMENT, (x, n) -> x.times(node, 1, 1, n, 0));
        }
        due.sentence(6, "wait: 1 to 60");
        due.range("the wait with the most", Scene::quiet, 1, 60, Due.ARGUMENT, (x, n) -> x.times(3, n, 20, 5, 0));
        due.sentence(6, "gap: 1 to 20");
        due.range("the gap with the most", Scene::quiet, 1, 20, Due.ARGUMENT, (x, n) -> x.times(3, 60, n, 5, 0));
        due.sentence(6, "tries: 1 to 5");
        due.range("the tries with the most", Scene::quiet, 1, 5, Due.ARGUMENT, (x, n) -> x.times(3, 60, 20, n, 0));
        asTold(6, () -> Scene.allOf(Scene.MENU), (x, n) -> x.times(n, 1, 1, 1, 0), (x, n) -> x.times(0, 1, 1, 1, n));
        asTold(6, () -> Scene.allOf(Scene.INPUT), (x, n) -> x.times(n, 1, 1, 1, 0), (x, n) -> x.times(0, 1, 1, 1, n));
        onlyWhileOver(6, "Throws IllegalStateException as told, or if the node is neither", Scene.MENU,
                (x, n) -> x.times(n, 1, 1, 1, 0));
        refusedAtKinds("times", (x, n) -> x.times(n, 1, 1, 1, 0), Scene.MENU, Scene.INPUT);
    }

    // ---- 7

    private void branchNumbers() {
        due.sentence(7, "what: OPEN, NUMBER, WAITS, DAY or FREE");
        due.range("what", Scene::quiet, Menuline.OPEN, Menuline.FREE, Due.ARGUMENT, (x, n) -> x.branch(0, n, 0, 0, 0, 0));
        int[] whats = {Menuline.OPEN, Menuline.NUMBER, Menuline.WAITS, Menuline.DAY, Menuline.FREE};
        int[] mostOfA = {999999, 999999, 5, 6, 5};
        due.sentence(7, "a: 0 to 999999; for WAITS and FREE a skill, 0 to 5, for DAY 0 to 6");
        for (int i = 0; i < 5; i++) {
            int what = whats[i];
            due.range("a of " + what, Scene::quiet, 0, mostOfA[i], Due.ARGUMENT, (x, n) -> x.branch(0, what, n, 60, 0, 0));
        }
        due.sentence(7, "b: 0 to 60");
        for (int what : whats) {
            due.range("b of " + what, Scene::quiet, 0, 60, Due.ARGUMENT, (x, n) -> x.branch(0, what, 0, n, 0, 0));
        }
        due.sentence(0, "OPEN = 0, NUMBER = 1, WAITS = 2, DAY = 3, FREE = 4: What a branch asks.");
        for (int what = 0; what < 5; what++) {
            due.is("the constant", whats[what], what);
        }
    }

    private void branchRefused() {
        due.sentence(7, "Throws IllegalArgumentException if what, a or b is out of range");
        int[][] wrong = {{-1, 0, 0}, {5, 0, 0}, {5, 999999, 60}, {0, -1, 0}, {0, 1000000, 0}, {1, -1, 0}, {1, 1000000, 0},
            {2, 6, 0}, {3, 7, 0}, {4, 6, 0}, {2, -1, 0}, {3, -1, 0}, {4, -1, 0}, {0, 0, -1}, {0, 0, 61}, {1, 0, -1},
            {1, 0, 61}, {2, 0, -1}, {2, 0, 61}, {3, 0, 61}, {4, 0, 61}, {5, -1, 61}};
        for (int[] n : wrong) {
            Menuline x = Scene.quiet();
            due.refused("branch " + n[0] + " " + n[1] + " " + n[2], x, Due.ARGUMENT,
                    () -> x.branch(0, n[0], n[1], n[2], 0, 0));
        }
        asTold(7, Scene::quiet, (x, n) -> x.branch(n, 0, 0, 0, 0, 0), (x, n) -> x.branch(0, 0, 0, 0, n, 0),
                (x, n) -> x.branch(0, 0, 0, 0, 0, n));
        onlyWhileOver(7, "Throws IllegalStateException as told", 0, (x, n) -> x.branch(n, 0, 0, 0, 0, 0));
        due.sentence(7, "Tells a BRANCH.");
        Menuline x = Scene.quiet();
        x.branch(0, Menuline.DAY, 0, 60, 29, 28);
        x.branch(29, Menuline.DAY, 1, 0, 0, NONE);
        x.call(0);
        due.is("yes", x.ways(0, 29), 1);
        due.is("no", x.ways(29, NONE), 1);
    }

    // ---- 8, 9

    private void sub() {
        due.sentence(8, "Tells a SUB.");
        Menuline x = Scene.quiet();
        x.sub(0, 29, 28);
        x.back(29);
        x.call(0);
        due.is("to its node", x.ways(0, 29), 1);
        due.is("and back", x.ways(29, 28), 1);
        x.sub(0, NONE, 28);
        x.call(0);
        due.is("to NONE", x.ways(0, NONE), 1);
        due.is("is the end", x.end(1), Menuline.ENDED);
        x.sub(0, 29, NONE);
        x.call(0);
        due.is("back to NONE", x.ways(29, NONE), 1);
        due.is("is the end", x.end(2), Menuline.ENDED);
        asTold(8, Scene::quiet, (y, n) -> y.sub(n, 0, 0), (y, n) -> y.sub(0, n, 0), (y, n) -> y.sub(0, 0, n));
        onlyWhileOver(8, "Throws IllegalStateException as told", 0, (y, n) -> y.sub(n, 0, 0));
    }

    private void back() {
        due.sentence(9, "Tells a BACK.");
        Menuline x = Scene.quiet();
        x.back(Scene.SAY);
        x.call(Scene.SUB);
        due.is("back", x.ways(Scene.SAY, NONE), 1);
        x.call(Scene.SAY);
        due.is("without a SUB", x.ways(Scene.SAY, NONE), 2);
        asTold(9, Scene::quiet, Menuline::back);
        onlyWhileOver(9, "Throws IllegalStateException as told", 0, Menuline::back);
    }

    // ---- 10

    private void queueNumbers() {
        due.sentence(10, "skill: 0 to 5");
        due.range("skill", Scene::quiet, 0, 5, Due.ARGUMENT, (x, n) -> x.queue(0, n, 0, 1, 1, 0));
        due.sentence(10, "priority: 0 to 9");
        due.range("priority", Scene::quiet, 0, 9, Due.ARGUMENT, (x, n) -> x.queue(0, 0, n, 1, 1, 0));
        due.sentence(10, "most: 1 to 500: the most ticks");
        due.range("most", Scene::quiet, 1, 500, Due.ARGUMENT, (x, n) -> x.queue(0, 0, 0, n, 1, 0));
        for (int most : new int[] {1, 2, 499, 500}) {
            Menuline x = Scene.quiet();
            x.queue(0, 0, 0, most, 1, 29);
            x.call(0);
            Due.passTo(x, 0, most - 1);
            due.is("ahead of " + most, x.state(0), Menuline.WAITING);
            x.pass(1);
            due.is("behind " + most, x.ways(0, 29), 1);
        }
        due.sentence(10, "cap: 1 to 30");
        due.range("cap", Scene::quiet, 1, 30, Due.ARGUMENT, (x, n) -> x.queue(0, 0, 0, 1, n, 0));
        for (int cap : new int[] {1, 2, 29, 30}) {
            Menuline x = Scene.quiet();
            x.queue(0, 0, 0, 500, cap, 29);
            for (int call = 0; call < cap; call++) {
                due.is("below the cap " + cap, x.state(x.call(0)), Menuline.WAITING);
            }
            due.is("at the cap " + cap, x.end(x.call(0)), Menuline.ENDED);
            due.is("over by the overflow", x.ways(0, 29), 1);
        }
    }

    private void queueRefused() {
        due.sentence(10, "Tells a QUEUE, without a node for leaving.");
        Menuline x = Scene.quiet();
        x.leaving(0, 29);
        x.queue(0, 5, 9, 500, 30, NONE);
        int call = x.call(0);
        for (int key = 0; key <= 11; key++) {
            due.is("nobody leaves", x.press(call, key), 0);
        }
        due.is("it waits for its skill", x.waiting(5), 1);
        due.sentence(10, "Throws IllegalArgumentException if skill, priority, most or cap is out of range");
        int[][] wrong = {{-1, 0, 1, 1}, {6, 0, 1, 1}, {0, -1, 1, 1}, {0, 10, 1, 1}, {0, 0, 0, 1}, {0, 0, 501, 1},
            {0, 0, 1, 0}, {0, 0, 1, 31}, {6, 10, 501, 31}, {-1, -1, 0, 0}};
        for (int[] n : wrong) {
            Menuline y = Scene.quiet();
            due.refused("queue " + n[0] + " " + n[1] + " " + n[2] + " " + n[3], y, Due.ARGUMENT,
                    () -> y.queue(0, n[0], n[1], n[2], n[3], 0));
        }
        asTold(10, Scene::quiet, (y, n) -> y.queue(n, 0, 0, 1, 1, 0), (y, n) -> y.queue(0, 0, 0, 1, 1, n));
        onlyWhileOver(10, "Throws IllegalStateException as told", 0, (y, n) -> y.queue(n, 0, 0, 1, 1, 0));
    }

    // ---- 11, 12

    private void leaving() {
        due.sentence(11, "Tells the node for leaving of a QUEUE.");
        for (int target : new int[] {1, 29}) {
            Menuline x = Scene.allOf(Scene.SAY);
            x.queue(0, 0, 0, 500, 30, NONE);
            x.leaving(0, target);
            due.is("leaving", x.press(x.call(0), 1), target);
        }
        Menuline self = Scene.quiet();
        self.leaving(0, 0);
        due.is("leaving to itself", self.press(self.call(0), 1), 0);
        due.is("is a way", self.ways(0, 0), 1);
        due.sentence(11, "target: a node; also NONE: leaving ends the call");
        Menuline x = Scene.quiet();
        x.leaving(0, NONE);
        due.is("leaving to NONE", x.press(x.call(0), 1), NONE);
        due.is("its state", x.state(0), Menuline.OVER);
        due.is("its end", x.end(0), Menuline.ENDED);
        due.is("its way", x.ways(0, NONE), 1);
        x.leaving(0, 29);
        due.is("told anew", x.press(x.call(0), 1), NONE);
        due.is("its way", x.ways(0, 29), 1);
        asTold(11, () -> Scene.allOf(Scene.QUEUE), (y, n) -> y.leaving(n, 0), (y, n) -> y.leaving(0, n));
        onlyWhileOver(11, "Throws IllegalStateException as told, or if the node is no QUEUE", Scene.QUEUE,
                (y, n) -> y.leaving(n, 0));
        refusedAtKinds("leaving", (y, n) -> y.leaving(n, 0), Scene.QUEUE);
        refusedAtKinds("leaving to NONE", (y, n) -> y.leaving(n, NONE), Scene.QUEUE);
    }

    private void callback() {
        due.sentence(12, "Tells a CALLBACK.");
        Menuline x = Scene.quiet();
        x.callback(29);
        x.leaving(0, 29);
        x.press(x.call(0), 1);
        due.is("with a claim", x.state(0), Menuline.AWAY);
        due.is("its way", x.ways(0, 29), 1);
        x.call(29);
        due.is("without one", x.end(1), Menuline.ENDED);
        asTold(12, Scene::quiet, Menuline::callback);
        onlyWhileOver(12, "Throws IllegalStateException as told", 0, Menuline::callback);
    }
}
