/** Promises 16 to 19, 26 to 33, 36 and 37, sentence by sentence: calls, and what is so of them. */
final class EdgesOfCalls {
    private static final int NONE = Menuline.NONE;
    private static final int[] ODD = {-1, -2, 60, 61, Integer.MIN_VALUE, Integer.MAX_VALUE};
    private final Due due;

    EdgesOfCalls(Due due) {
        this.due = due;
    }

    void run() {
        numbered();
        call();
        sixty();
        pressNumbers();
        pressAnswers();
        pressRefused();
        hangAnswers();
        hangCallback();
        hangRefused();
        pickAnswers();
        pickRefused();
        calls();
        state();
        end();
        nodeOf();
        numberOf();
        placeOf();
        placesOfMost();
        placeByReplay();
        replayOfManyWaits();
        waiting();
        ways();
        waysRefused();
        begun();
    }

    /** A call that is not there, be there none, one, or all sixty. */
    private void noSuchCall(int promise, String words, Due.Try call) {
        due.sentence(promise, words);
        for (int calls : new int[] {0, 1, 2, 59, 60}) {
            if (calls > 0) {
                due.taken("the first of " + calls, () -> call.with(Scene.calls(calls), 0));
                due.taken("the last of " + calls, () -> call.with(Scene.calls(calls), calls - 1));
            }
            Menuline x = Scene.calls(calls);
            due.refused("one behind the last of " + calls, x, Due.INDEX, () -> call.with(x, calls));
            for (int odd : ODD) {
                due.refused(odd + " of " + calls, x, Due.INDEX, () -> call.with(x, odd));
            }
        }
    }

    private void refusedBut(String what, Due.Try call, int... states) {
        for (int state = Menuline.IN_FLOW; state <= Menuline.OVER; state++) {
            boolean right = false;
            for (int one : states) {
                right |= one == state;
            }
            Menuline x = Scene.with(state);
            if (right) {
                due.taken(what + " while the call does " + state, () -> call.with(x, 0));
            } else {
                due.refused(what + " while the call does " + state, x, Due.STATE, () -> call.with(x, 0));
            }
        }
    }

    private void refusedWhenOver(String what, Due.Try call) {
        for (int how = Menuline.ENDED; how <= Menuline.LOST; how++) {
            Menuline x = Scene.over(how);
            due.refused(what + " when over as " + how, x, Due.STATE, () -> call.with(x, 0));
        }
    }

    // ---- 16

    private void numbered() {
        due.sentence(0, "Calls are numbered from 0, at most 60.");
        Menuline x = Scene.quiet();
        for (int call = 0; call < 60; call++) {
            due.is("its number", x.call(call % 2 == 0 ? Scene.SAY : Scene.BLANK), call);
        }
        due.refused("the number 60", x, Due.INDEX, () -> x.state(60));
        due.is("the number 59", x.state(59), Menuline.OVER);
        due.is("the number 0", x.state(0), Menuline.IN_FLOW);
    }

    private void call() {
        due.sentence(16, "node: 0 to 29");
        due.range("node", Scene::quiet, 0, 29, Due.INDEX, Menuline::call);
        due.sentence(16, "Throws IndexOutOfBoundsException if there is no such node");
        for (int calls : new int[] {0, 59, 60}) {
            Menuline x = Scene.calls(calls);
            for (int node : new int[] {NONE, 30, -2, Integer.MIN_VALUE, Integer.MAX_VALUE}) {
                due.refused("call " + node + " behind " + calls, x, Due.INDEX, () -> x.call(node));
            }
        }
        due.sentence(16, "A call comes to a node.");
        Menuline x = Scene.allOf(Scene.SAY);
        for (int node = 0; node < 30; node++) {
            int call = x.call(node);
            due.is("at its node", x.nodeOf(call), node);
            due.is("from outside", x.begun(node), 1);
        }
    }

    private void sixty() {
        due.sentence(16, "Returns its number.");
        Menuline x = Scene.calls(59);
        due.is("the last number", x.call(29), 59);
        due.is("the first number", Scene.quiet().call(0), 0);
        due.sentence(16, "Throws IllegalStateException if there are 60");
        due.refused("a 61st", x, Due.STATE, () -> x.call(0));
        due.refused("a 61st, at the last node", x, Due.STATE, () -> x.call(29));
        for (int call = 0; call < 59; call++) {
            x.hang(call);
        }
        due.refused("a 61st when all are over", x, Due.STATE, () -> x.call(0));
        due.is("they are over", x.end(0), Menuline.HUNG);
        x.say(0, 1, 0);
        due.refused("a 61st behind another telling", x, Due.STATE, () -> x.call(0));
    }

    // ---- 17

    private void pressNumbers() {
        due.sentence(17, "key: 0 to 9 for a digit, 10 for *, 11 for #");
        for (int state : new int[] {Menuline.IN_FLOW, Menuline.WAITING}) {
            due.range("while it does " + state, () -> Scene.with(state), 0, 11, Due.ARGUMENT, (x, n) -> x.press(0, n));
        }
        for (int digit = 0; digit <= 9; digit++) {
            Menuline x = Scene.quiet();
            Due.pressAll(x, x.call(Scene.INPUT), "8*");
            x.press(0, digit);
            x.press(0, 11);
            due.is("the digit " + digit, x.numberOf(0), digit);
        }
        due.sentence(17, "Throws IllegalArgumentException if key is out of range");
        for (int state = Menuline.IN_FLOW; state <= Menuline.OVER; state++) {
            Menuline x = Scene.with(state);
            for (int key : new int[] {-1, 12, Integer.MIN_VALUE, Integer.MAX_VALUE}) {
                due.refused("press " + key + " while it does " + state, x, Due.ARGUMENT, () -> x.press(0, key));
            }
        }
        noSuchCall(17, "Throws IndexOutOfBoundsException if there is no such call", (x, n) -> x.press(n, 0));
    }

    private void pressAnswers() {
        due.sentence(17, "A call tells something.");
        Menuline x = Scene.quiet();
        x.key(Scene.MENU, 19, Scene.SAY);
        x.call(Scene.MENU);
        x.call(Scene.MENU);
        x.press(1, 9);
        due.is("only that call", x.nodeOf(0), Scene.MENU);
        due.is("that call", x.nodeOf(1), Scene.SAY);
        due.sentence(17, "Returns the node at which it is then; NONE if at none.");
        due.is("in a SAY", x.press(1, 0), Scene.SAY);
        due.is("a miss", x.press(0, 0), Scene.MENU);
        due.is("to another node", x.press(0, 9), Scene.SAY);
        Menuline y = Scene.quiet();
        y.key(Scene.MENU, 10, 29);
        y.key(Scene.MENU, 11, 0);
        y.key(Scene.MENU, 12, NONE);
        y.say(29, 60, NONE);
        due.is("the largest node", y.press(y.call(Scene.MENU), 0), 29);
        due.is("the smallest node", y.press(y.call(Scene.MENU), 1), 0);
        due.is("no node behind NONE", y.press(y.call(Scene.MENU), 2), NONE);
        due.is("no node while AWAY", y.press(1, 1), NONE);
        y.hang(1);
        y.signOn(5, 1);
        due.is("no node while TALKING", y.press(y.call(Scene.MENU), 1), NONE);
        due.is("it talks", y.callOf(5), 3);
    }

    private void pressRefused() {
        due.sentence(17, "Throws IllegalStateException if the call is neither IN_FLOW nor WAITING");
        for (int key : new int[] {0, 1, 9, 10, 11}) {
            refusedBut("press " + key, (x, n) -> x.press(n, key), Menuline.IN_FLOW, Menuline.WAITING);
            refusedWhenOver("press " + key, (x, n) -> x.press(n, key));
        }
    }

    // ---- 18

    private void hangAnswers() {
        due.sentence(18, "Returns what it did.");
        for (int state = Menuline.IN_FLOW; state < Menuline.OVER; state++) {
            due.is("hang", Scene.with(state).hang(0), state);
        }
        due.sentence(18, "A call is hung up, or, while it is AWAY or RINGING, the callback is taken back; it is over, as HUNG.");
        for (int state = Menuline.IN_FLOW; state < Menuline.OVER; state++) {
            Menuline x = Scene.with(state);
            int does = x.agent(0);
            x.hang(0);
            due.is("over", x.state(0), Menuline.OVER);
            due.is("as", x.end(0), Menuline.HUNG);
            due.is("at no node", x.nodeOf(0), NONE);
            due.is("no place", x.placeOf(0), NONE);
            due.is("no place by replay", x.placeByReplay(0), NONE);
            due.is("nobody waits", x.waiting(0), 0);
            due.is("no call of the agent", x.callOf(0), NONE);
            int then = does == Menuline.BUSY ? Menuline.WRAPPING : does == Menuline.CALLING ? Menuline.READY : does;
            due.is("the agent", x.agent(0), then);
            due.is("no way to NONE", x.ways(Scene.QUEUE, NONE) + x.ways(Scene.SAY, NONE), 0);
            x.pass(100);
            due.is("it stays so", x.end(0), Menuline.HUNG);
        }
    }

    private void hangCallback() {
        due.sentence(18, "while it is AWAY or RINGING, the callback is taken back");
        Menuline x = Scene.with(Menuline.RINGING);
        x.call(Scene.QUEUE);
        due.is("the agent calls", x.callOf(0), 0);
        x.hang(0);
        due.is("the agent is READY at once and takes the other one", x.callOf(0), 1);
        due.is("who talks", x.state(1), Menuline.TALKING);
        Menuline y = Scene.with(Menuline.RINGING);
        y.pass(6);
        y.hang(0);
        y.pass(60);
        due.is("one that was not picked up once rings no more", y.agent(0), Menuline.READY);
        due.is("it is over as before", y.end(0), Menuline.HUNG);
    }

    private void hangRefused() {
        due.sentence(18, "Throws IllegalStateException if it is over");
        refusedWhenOver("hang", Menuline::hang);
        refusedBut("hang", Menuline::hang, Menuline.IN_FLOW, Menuline.WAITING, Menuline.TALKING, Menuline.AWAY,
                Menuline.RINGING);
        noSuchCall(18, "Throws IndexOutOfBoundsException if there is no such call", Menuline::hang);
    }

    // ---- 19

    private void pickAnswers() {
        due.sentence(19, "Returns the agent with whom it is TALKING then.");
        for (int agent = 0; agent < 6; agent++) {
            Menuline x = Scene.with(Menuline.AWAY);
            x.signOn(agent, 1);
            due.is("pick", x.pick(0), agent);
            due.is("it talks", x.state(0), Menuline.TALKING);
            due.is("the agent is BUSY", x.agent(agent), Menuline.BUSY);
            due.is("with it", x.callOf(agent), 0);
        }
        due.sentence(19, "A call that rings is picked up.");
        for (int ticks : new int[] {0, 1, 5}) {
            Menuline x = Scene.with(Menuline.RINGING);
            Due.passTo(x, 0, ticks);
            due.is("behind ticks: " + ticks, x.pick(0), 0);
            x.pass(100);
            due.is("it talks on", x.state(0), Menuline.TALKING);
        }
        Menuline x = Scene.with(Menuline.RINGING);
        x.pass(36);
        due.is("when it rings for the second time", x.pick(0), 0);
    }

    private void pickRefused() {
        due.sentence(19, "Throws IllegalStateException if it is not RINGING");
        refusedBut("pick", Menuline::pick, Menuline.RINGING);
        refusedWhenOver("pick", Menuline::pick);
        Menuline x = Scene.with(Menuline.RINGING);
        x.pass(6);
        due.refused("pick behind 6 ticks", x, Due.STATE, () -> x.pick(0));
        Menuline y = Scene.with(Menuline.RINGING);
        y.pick(0);
        due.refused("pick once more", y, Due.STATE, () -> y.pick(0));
        due.sentence(19, "Throws IndexOutOfBoundsException if there is no such call");
        Menuline z = Scene.with(Menuline.RINGING);
        for (int call : new int[] {1, 59, 60, -1, Integer.MIN_VALUE, Integer.MAX_VALUE}) {
            due.refused("pick " + call, z, Due.INDEX, () -> z.pick(call));
        }
        Menuline without = Scene.quiet();
        due.refused("pick 0 without calls", without, Due.INDEX, () -> without.pick(0));
    }

    // ---- 26 to 30

    private void calls() {
        due.sentence(26, "Returns how many calls there were.");
        Menuline x = Scene.quiet();
        due.is("none", x.calls(), 0);
        for (int count = 1; count <= 60; count++) {
            x.call(count % 9);
            due.is("calls", x.calls(), count);
        }
        due.refused("one more", x, Due.STATE, () -> x.call(0));
        due.is("still sixty", x.calls(), 60);
        Menuline y = Scene.with(Menuline.TALKING);
        y.transfer(0, Scene.SAY);
        due.is("a transfer is no other call", y.calls(), 1);
    }

    private void state() {
        due.sentence(27, "Returns what a call does.");
        for (int state = Menuline.IN_FLOW; state <= Menuline.OVER; state++) {
            due.is("state", Scene.with(state).state(0), state);
        }
        noSuchCall(27, "Returns what a call does.", Menuline::state);
    }

    private void end() {
        due.sentence(28, "Returns how a call was over; NONE if it is not over.");
        for (int state = Menuline.IN_FLOW; state < Menuline.OVER; state++) {
            due.is("not over", Scene.with(state).end(0), NONE);
        }
        for (int how = Menuline.ENDED; how <= Menuline.LOST; how++) {
            due.is("over", Scene.over(how).end(0), how);
        }
        noSuchCall(28, "Returns how a call was over; NONE if it is not over.", Menuline::end);
    }

    private void nodeOf() {
        due.sentence(29, "Returns the node at which a call is, IN_FLOW or WAITING; NONE if at none.");
        for (int state = Menuline.IN_FLOW; state <= Menuline.OVER; state++) {
            int node = state == Menuline.IN_FLOW ? Scene.SAY : state == Menuline.WAITING ? Scene.QUEUE : NONE;
            due.is("of one that does " + state, Scene.with(state).nodeOf(0), node);
        }
        for (int how = Menuline.ENDED; how <= Menuline.LOST; how++) {
            due.is("of one that is over as " + how, Scene.over(how).nodeOf(0), NONE);
        }
        Menuline x = Scene.allOf(Scene.SAY);
        due.is("the largest", x.nodeOf(x.call(29)), 29);
        due.is("the smallest", x.nodeOf(x.call(0)), 0);
        noSuchCall(29, "Returns the node at which a call is", Menuline::nodeOf);
    }

    private void numberOf() {
        due.sentence(30, "Returns the number of a call that it told in an INPUT; 0 if none.");
        for (int state = Menuline.IN_FLOW; state <= Menuline.OVER; state++) {
            due.is("none", Scene.with(state).numberOf(0), 0);
        }
        Menuline x = Scene.quiet();
        x.input(20, 1, 6, Scene.QUEUE);
        Due.pressAll(x, x.call(20), "999999");
        due.is("the largest, WAITING", x.numberOf(0), 999999);
        x.press(0, 1);
        due.is("AWAY", x.numberOf(0), 999999);
        x.signOn(0, 1);
        due.is("RINGING", x.numberOf(0), 999999);
        x.pick(0);
        due.is("TALKING", x.numberOf(0), 999999);
        x.transfer(0, 20);
        due.is("IN_FLOW", x.numberOf(0), 999999);
        Due.pressAll(x, 0, "0#");
        due.is("a later one", x.numberOf(0), 0);
        Due.pressAll(x, x.call(20), "7");
        due.is("while it is told", x.numberOf(1), 0);
        x.pass(3);
        due.is("told", x.numberOf(1), 7);
        x.hang(1);
        due.is("OVER", x.numberOf(1), 7);
        noSuchCall(30, "Returns the number of a call that it told in an INPUT", Menuline::numberOf);
    }

    // ---- 31, 32

    private void place(String what, Menuline x, int call, int place) {
        due.is(what + ": placeOf", x.placeOf(call), place);
        due.is(what + ": placeByReplay", x.placeByReplay(call), place);
    }

    private void placeOf() {
        due.sentence(31, "Returns how many calls that wait for the same skill are ahead of one that waits; NONE if it does not "
                + "wait.");
        for (int state = Menuline.IN_FLOW; state <= Menuline.OVER; state++) {
            boolean waits = state == Menuline.WAITING || state == Menuline.AWAY;
            place("one that does " + state, Scene.with(state), 0, waits ? 0 : NONE);
        }
        Menuline x = Scene.quiet();
        for (int skill = 0; skill < 6; skill++) {
            x.queue(20 + skill, skill, 9 - skill, 500, 30, NONE);
        }
        for (int call = 0; call < 12; call++) {
            x.call(20 + call % 6);
        }
        for (int call = 0; call < 12; call++) {
            place("of its own skill alone", x, call, call / 6);
        }
        x.hang(3);
        place("one ahead less", x, 9, 0);
        place("another skill", x, 8, 1);
        noSuchCall(31, "Returns how many calls that wait for the same skill", Menuline::placeOf);
    }

    private void placesOfMost() {
        due.sentence(31, "Returns how many calls that wait for the same skill are ahead of one that waits");
        Menuline x = Scene.quiet();
        for (int call = 0; call < 60; call++) {
            int one = x.call(Scene.QUEUE);
            if (x.state(one) == Menuline.WAITING && call % 2 == 0) {
                x.press(one, 1);
            }
        }
        for (int call = 0; call < 60; call++) {
            place("all sixty wait", x, call, call);
        }
        for (int began : new int[] {18008, 18009}) {
            Menuline y = Scene.quiet();
            y.queue(20, 0, 9, 500, 30, NONE);
            y.leaving(20, Scene.CALLBACK);
            y.press(y.call(Scene.QUEUE), 1);
            Due.passTo(y, 0, began);
            y.press(y.call(20), 1);
            Due.passTo(y, began, 20000);
            place("20010 beside 10 times the ticks since " + began, y, 0, began == 18008 ? 1 : 0);
        }
    }

    private void placeByReplay() {
        due.sentence(32, "Returns the same, found from all that has happened: when which call began to wait for what, and when "
                + "it ceased.");
        Menuline x = Scene.quiet();
        x.queue(20, 0, 1, 10, 30, 21);
        x.queue(21, 1, 3, 10, 30, 20);
        x.call(20);
        x.call(21);
        x.call(20);
        place("it began", x, 0, 0);
        place("of another skill", x, 1, 0);
        place("behind the first", x, 2, 1);
        x.pass(10);
        place("it ceased and began for another skill", x, 0, 0);
        place("so did this one", x, 2, 1);
        place("and this one", x, 1, 0);
        x.hang(0);
        place("it ceased for good", x, 0, NONE);
        place("the next one", x, 2, 0);
        x.signOn(0, 3);
        due.is("taken", x.callOf(0), 2);
        place("it ceased by that", x, 2, NONE);
        x.transfer(0, 20);
        place("it began anew", x, 2, 1);
        noSuchCall(32, "Returns the same, found from all that has happened", Menuline::placeByReplay);
    }

    private void replayOfManyWaits() {
        due.sentence(0, "Places in queues are found by what waits, and once more from all that has happened.");
        Menuline x = Scene.quiet();
        x.queue(20, 0, 0, 1, 30, 21);
        x.queue(21, 1, 1, 2, 30, 22);
        x.queue(22, 0, 2, 3, 30, 20);
        x.press(x.call(Scene.QUEUE), 1);
        for (int call = 1; call < 60; call++) {
            x.call(20 + call % 3);
        }
        for (int round = 0; round < 30; round++) {
            x.pass(round < 15 ? 1 : 100);
            for (int call = 54; call < 60; call++) {
                due.is("in the round " + round + " of " + call, x.placeByReplay(call), x.placeOf(call));
            }
            if (round == 20) {
                place("the oldest is ahead of all", x, 0, 0);
                x.hang(0);
            }
        }
        place("the oldest has ceased to wait", x, 0, NONE);
    }

    // ---- 33

    private void waiting() {
        due.sentence(33, "Returns how many calls wait for a skill.");
        for (int state = Menuline.IN_FLOW; state <= Menuline.OVER; state++) {
            boolean waits = state == Menuline.WAITING || state == Menuline.AWAY;
            due.is("one that does " + state, Scene.with(state).waiting(0), waits ? 1 : 0);
            due.is("for another skill", Scene.with(state).waiting(1), 0);
        }
        Menuline x = Scene.quiet();
        for (int count = 1; count <= 60; count++) {
            int call = x.call(Scene.QUEUE);
            if (x.state(call) == Menuline.WAITING && count % 2 == 1) {
                x.press(call, 1);
            }
            due.is("so many", x.waiting(0), count);
        }
        for (int count = 59; count >= 0; count--) {
            x.hang(count);
            due.is("so many are left", x.waiting(0), count);
        }
        due.sentence(33, "skill: 0 to 5");
        due.range("skill", Scene::quiet, 0, 5, Due.ARGUMENT, Menuline::waiting);
        due.sentence(33, "Throws IllegalArgumentException if skill is out of range");
        for (int state = Menuline.IN_FLOW; state <= Menuline.OVER; state++) {
            int does = state;
            due.range("skill", () -> Scene.with(does), 0, 5, Due.ARGUMENT, Menuline::waiting);
        }
    }

    // ---- 36, 37

    private void ways() {
        due.sentence(36, "Returns how often calls went on from a node to a node.");
        for (int from : new int[] {0, 1, 28, 29}) {
            for (int to : new int[] {NONE, 0, 1, 28, 29}) {
                Menuline x = new Menuline();
                x.say(from, 1, to);
                x.call(from);
                due.is("not yet", x.ways(from, to), 0);
                x.pass(1);
                due.is("once", x.ways(from, to), 1);
                int others = 0;
                for (int node = 0; node < 30; node++) {
                    for (int target = NONE; target < 30; target++) {
                        others += node == from && target == to || node == to ? 0 : x.ways(node, target);
                    }
                }
                due.is("no others", others, 0);
            }
        }
        Menuline x = new Menuline();
        x.say(29, 1, 29);
        for (int call = 0; call < 60; call++) {
            x.call(29);
        }
        int time = 0;
        while (time < 20000) {
            time = x.pass(100);
        }
        due.is("as often as can be", x.ways(29, 29), 60 * 20000);
    }

    private void waysRefused() {
        due.sentence(36, "from: 0 to 29");
        for (int to : new int[] {NONE, 0, 29}) {
            due.range("from", Scene::quiet, 0, 29, Due.INDEX, (x, n) -> x.ways(n, to));
        }
        due.sentence(36, "to: 0 to 29, or NONE");
        for (int from : new int[] {0, 29}) {
            due.range("to", Scene::quiet, NONE, 29, Due.INDEX, (x, n) -> x.ways(from, n));
        }
        Menuline x = Scene.quiet();
        due.refused("both of them", x, Due.INDEX, () -> x.ways(NONE, 30));
    }

    private void begun() {
        due.sentence(37, "Returns how often calls came to a node from outside: by call() or transfer().");
        Menuline x = Scene.quiet();
        for (int count = 1; count <= 60; count++) {
            x.call(29);
            due.is("by call()", x.begun(29), count);
        }
        due.refused("a 61st", x, Due.STATE, () -> x.call(29));
        due.is("not by one that is refused", x.begun(29), 60);
        Menuline y = Scene.with(Menuline.TALKING);
        y.transfer(0, 29);
        due.is("by transfer()", y.begun(29), 1);
        due.is("by call()", y.begun(Scene.QUEUE), 1);
        Menuline z = new Menuline();
        z.say(0, 1, 29);
        z.call(0);
        z.pass(1);
        due.is("not from a node", z.begun(29), 0);
        due.is("the smallest", z.begun(0), 1);
        due.range("node", Scene::quiet, 0, 29, Due.INDEX, Menuline::begun);
    }
}
