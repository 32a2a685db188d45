/** What the terms say of exceptions: which one is thrown if several apply, and that it changes nothing. */
final class EdgesOfRefusals {
    private static final int NONE = Menuline.NONE;
    private final Due due;

    EdgesOfRefusals(Due due) {
        this.due = due;
    }

    void run() {
        nodesFirst();
        argumentsNext();
        statesLast();
        ofCallsAndAgents();
        noSuchNode();
        nodesAreQuiet();
        fullMenus();
    }

    private static final String FIRST = "A call that throws an exception changes nothing; of several exceptions that apply, the one "
            + "that its throws clause names first is thrown.";

    /** Any state of the call 0 but OVER, so that nothing can be told of nodes. */
    private interface Each {
        void of(Menuline x);
    }

    private void inEachState(Each checks) {
        for (int state = Menuline.IN_FLOW; state < Menuline.OVER; state++) {
            checks.of(Scene.with(state));
        }
    }

    private void nodesFirst() {
        due.sentence(0, FIRST);
        inEachState(x -> {
            for (int node : new int[] {NONE, 30}) {
                due.refused("say", x, Due.INDEX, () -> x.say(node, 0, 0));
                due.refused("key", x, Due.INDEX, () -> x.key(node, 9, 0));
                due.refused("input", x, Due.INDEX, () -> x.input(node, 0, 7, 0));
                due.refused("times", x, Due.INDEX, () -> x.times(node, 0, 0, 0, 0));
                due.refused("branch", x, Due.INDEX, () -> x.branch(node, 5, -1, 61, 0, 0));
                due.refused("queue", x, Due.INDEX, () -> x.queue(node, 6, 10, 0, 0, 0));
                due.refused("menu", x, Due.INDEX, () -> x.menu(node));
                due.refused("sub", x, Due.INDEX, () -> x.sub(node, 0, 0));
                due.refused("back", x, Due.INDEX, () -> x.back(node));
                due.refused("leaving", x, Due.INDEX, () -> x.leaving(node, 0));
                due.refused("callback", x, Due.INDEX, () -> x.callback(node));
            }
            for (int target : new int[] {-2, 30}) {
                due.refused("say to", x, Due.INDEX, () -> x.say(0, 0, target));
                due.refused("key to", x, Due.INDEX, () -> x.key(0, 9, target));
                due.refused("input to", x, Due.INDEX, () -> x.input(0, 0, 7, target));
                due.refused("times to", x, Due.INDEX, () -> x.times(0, 0, 0, 0, target));
                due.refused("branch to", x, Due.INDEX, () -> x.branch(0, 5, -1, 61, target, 0));
                due.refused("branch else to", x, Due.INDEX, () -> x.branch(0, 5, -1, 61, 0, target));
                due.refused("queue to", x, Due.INDEX, () -> x.queue(0, 6, 10, 0, 0, target));
                due.refused("sub to", x, Due.INDEX, () -> x.sub(0, target, 0));
                due.refused("sub back to", x, Due.INDEX, () -> x.sub(0, 0, target));
                due.refused("leaving to", x, Due.INDEX, () -> x.leaving(0, target));
                due.refused("leaving of no queue to", x, Due.INDEX, () -> x.leaving(Scene.BLANK, target));
            }
        });
    }

    private void argumentsNext() {
        due.sentence(0, FIRST);
        inEachState(x -> {
            due.refused("say", x, Due.ARGUMENT, () -> x.say(0, 61, 0));
            due.refused("key", x, Due.ARGUMENT, () -> x.key(Scene.MENU, 9, 0));
            due.refused("key of no menu", x, Due.ARGUMENT, () -> x.key(Scene.SAY, 20, 0));
            due.refused("input", x, Due.ARGUMENT, () -> x.input(0, 2, 1, 0));
            due.refused("times", x, Due.ARGUMENT, () -> x.times(Scene.MENU, 61, 1, 1, 0));
            due.refused("times of no menu", x, Due.ARGUMENT, () -> x.times(Scene.SAY, 1, 21, 1, 0));
            due.refused("branch", x, Due.ARGUMENT, () -> x.branch(0, 3, 7, 0, 0, 0));
            due.refused("queue", x, Due.ARGUMENT, () -> x.queue(0, 0, 0, 501, 1, 0));
        });
        Menuline quiet = Scene.quiet();
        due.refused("key of no menu, quiet", quiet, Due.ARGUMENT, () -> quiet.key(Scene.SAY, 200, 0));
        due.refused("times of no menu, quiet", quiet, Due.ARGUMENT, () -> quiet.times(Scene.SAY, 1, 1, 6, 0));
    }

    private void statesLast() {
        due.sentence(0, FIRST);
        inEachState(x -> {
            due.refused("say", x, Due.STATE, () -> x.say(29, 60, NONE));
            due.refused("key", x, Due.STATE, () -> x.key(Scene.MENU, 10, 0));
            due.refused("key of no menu", x, Due.STATE, () -> x.key(Scene.SAY, 10, 0));
            due.refused("input", x, Due.STATE, () -> x.input(0, 6, 6, 0));
            due.refused("times", x, Due.STATE, () -> x.times(Scene.INPUT, 60, 20, 5, 0));
            due.refused("times of no menu", x, Due.STATE, () -> x.times(Scene.SAY, 1, 1, 1, 0));
            due.refused("branch", x, Due.STATE, () -> x.branch(0, 0, 999999, 60, NONE, NONE));
            due.refused("queue", x, Due.STATE, () -> x.queue(0, 5, 9, 500, 30, NONE));
            due.refused("leaving", x, Due.STATE, () -> x.leaving(0, NONE));
            due.refused("leaving of no queue", x, Due.STATE, () -> x.leaving(Scene.SAY, NONE));
        });
    }

    private void ofCallsAndAgents() {
        due.sentence(0, FIRST);
        Menuline full = Scene.calls(60);
        due.refused("call", full, Due.INDEX, () -> full.call(30));
        due.refused("pass", full, Due.ARGUMENT, () -> full.pass(0));
        Menuline late = new Menuline();
        Due.passTo(late, 0, 20000);
        due.refused("pass too far", late, Due.ARGUMENT, () -> late.pass(101));
        for (int state = Menuline.IN_FLOW; state <= Menuline.OVER; state++) {
            Menuline x = Scene.with(state);
            due.refused("press of no call", x, Due.INDEX, () -> x.press(1, 12));
            due.refused("press of no key", x, Due.ARGUMENT, () -> x.press(0, 12));
        }
        for (int does = Menuline.OFF; does <= Menuline.WRAPPING; does++) {
            Menuline x = Scene.agent(does);
            due.refused("signOn of nobody", x, Due.INDEX, () -> x.signOn(6, 64));
            due.refused("signOn with no skill", x, Due.ARGUMENT, () -> x.signOn(0, 0));
            due.refused("wrap of nobody", x, Due.INDEX, () -> x.wrap(-1, 31));
            due.refused("transfer of nobody", x, Due.INDEX, () -> x.transfer(6, 30));
            due.refused("transfer to no node", x, Due.INDEX, () -> x.transfer(0, NONE));
        }
    }

    private void noSuchNode() {
        due.sentence(0, "An IndexOutOfBoundsException is thrown if there is no such node, call or agent; nodes to which one leads can "
                + "be NONE, too.");
        Menuline x = Scene.with(Menuline.TALKING);
        due.refused("a call comes from outside to a node", x, Due.INDEX, () -> x.call(NONE));
        due.refused("so does a transferred one", x, Due.INDEX, () -> x.transfer(0, NONE));
        due.refused("ways from NONE", x, Due.INDEX, () -> x.ways(NONE, NONE));
        due.is("ways to NONE", x.ways(0, NONE), 0);
        due.refused("begun at NONE", x, Due.INDEX, () -> x.begun(NONE));
        due.refused("a call", x, Due.INDEX, () -> x.state(NONE));
        due.refused("an agent", x, Due.INDEX, () -> x.agent(NONE));
        Menuline y = Scene.quiet();
        due.taken("say", () -> y.say(0, 1, NONE));
        due.taken("key", () -> y.key(Scene.MENU, 10, NONE));
        due.taken("input", () -> y.input(0, 1, 1, NONE));
        due.taken("times", () -> y.times(0, 1, 1, 1, NONE));
        due.taken("branch", () -> y.branch(0, 0, 0, 0, NONE, NONE));
        due.taken("sub", () -> y.sub(0, NONE, NONE));
        due.taken("queue", () -> y.queue(0, 0, 0, 1, 1, NONE));
        due.taken("leaving", () -> y.leaving(0, NONE));
    }

    private void nodesAreQuiet() {
        due.sentence(0, "What is told of a node cannot be told while a call is not over (IllegalStateException).");
        inEachState(x -> {
            due.refused("say", x, Due.STATE, () -> x.say(9, 1, 0));
            due.refused("menu", x, Due.STATE, () -> x.menu(9));
            due.refused("key", x, Due.STATE, () -> x.key(Scene.MENU, 10, 0));
            due.refused("input", x, Due.STATE, () -> x.input(9, 1, 1, 0));
            due.refused("times", x, Due.STATE, () -> x.times(Scene.MENU, 1, 1, 1, 0));
            due.refused("branch", x, Due.STATE, () -> x.branch(9, 0, 0, 0, 0, 0));
            due.refused("sub", x, Due.STATE, () -> x.sub(9, 0, 0));
            due.refused("back", x, Due.STATE, () -> x.back(9));
            due.refused("queue", x, Due.STATE, () -> x.queue(9, 0, 0, 1, 1, 0));
            due.refused("leaving", x, Due.STATE, () -> x.leaving(Scene.QUEUE, 0));
            due.refused("callback", x, Due.STATE, () -> x.callback(9));
            due.taken("hours", () -> x.hours(0, 0, 1));
            due.taken("holiday", () -> x.holiday(0, true));
            due.taken("wrap", () -> x.wrap(0, 1));
        });
    }

    private void fullMenus() {
        due.sentence(0, FIRST);
        Menuline x = Scene.quiet();
        for (int key = 0; key < 10; key++) {
            x.key(Scene.MENU, 100 + key, 0);
        }
        due.refused("an eleventh key to no node", x, Due.INDEX, () -> x.key(Scene.MENU, 10, 30));
        due.refused("an eleventh key out of range", x, Due.ARGUMENT, () -> x.key(Scene.MENU, 99, 0));
        due.refused("an eleventh key", x, Due.STATE, () -> x.key(Scene.MENU, 10, 0));
        x.call(Scene.SAY);
        due.refused("a tenth key anew, not quiet", x, Due.STATE, () -> x.key(Scene.MENU, 109, 0));
    }
}
