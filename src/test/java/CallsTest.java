/** Promises 16 to 19 and 26 to 33, 36, 37: calls, and what is so of them. */
public final class CallsTest {
    private static final int NONE = Menuline.NONE;
    private final Due due = new Due("CallsTest");

    public static void main(String[] args) {
        CallsTest test = new CallsTest();
        test.calls();
        test.sixty();
        test.pressRefused();
        test.pressAnswers();
        test.hang();
        test.hangWithAgents();
        test.pick();
        test.nobodyPicksUp();
        test.whatIsRefused();
        test.numbersAndNodes();
        test.placesByScore();
        test.placesOfEqualScore();
        test.placesOfAway();
        test.placesBehindManyWaits();
        test.ways();
        test.begun();
        test.due.close();
    }

    /** Skill 0: node 0 is a queue that leads to the callback at node 1; with the digit 1 at once. */
    private static Menuline withCallback() {
        Menuline x = new Menuline();
        x.queue(0, 0, 0, 500, 30, 1);
        x.leaving(0, 1);
        x.callback(1);
        return x;
    }

    private void calls() {
        Menuline x = new Menuline();
        x.say(29, 60, NONE);
        due.is("the first", x.call(29), 0);
        due.is("the second", x.call(0), 1);
        due.is("calls", x.calls(), 2);
        due.is("the first is there", x.state(0), Menuline.IN_FLOW);
        due.is("it has no end", x.end(0), NONE);
        due.is("the second is over", x.state(1), Menuline.OVER);
        due.is("the third", x.call(29), 2);
        for (int node : new int[] {-2, -1, 30, Integer.MAX_VALUE, Integer.MIN_VALUE}) {
            due.refused("call " + node, x, Due.INDEX, () -> x.call(node));
        }
        due.is("calls", x.calls(), 3);
    }

    private void sixty() {
        Menuline x = new Menuline();
        for (int call = 0; call < 60; call++) {
            due.is("call", x.call(call % 30), call);
        }
        due.is("calls", x.calls(), 60);
        due.refused("a 61st call", x, Due.STATE, () -> x.call(0));
        due.refused("a 61st call to no node", x, Due.INDEX, () -> x.call(30));
        due.is("begun", x.begun(0), 2);
        due.is("the last", x.end(59), Menuline.ENDED);
        Menuline y = withCallback();
        for (int call = 0; call < 60; call++) {
            y.call(0);
            // Behind the cap of 30 they come to the callback by themselves.
            if (call < 30) {
                y.press(call, 1);
            }
        }
        for (int call = 0; call < 60; call++) {
            due.is("the place of " + call, y.placeOf(call), call);
            due.is("its place by replay", y.placeByReplay(call), call);
        }
    }

    private void pressRefused() {
        Menuline x = withCallback();
        x.call(0);
        due.refused("press of -1", x, Due.INDEX, () -> x.press(-1, 12));
        due.refused("press of 1", x, Due.INDEX, () -> x.press(1, 12));
        due.refused("press of 60", x, Due.INDEX, () -> x.press(60, 1));
        due.refused("press -1", x, Due.ARGUMENT, () -> x.press(0, -1));
        due.refused("press 12", x, Due.ARGUMENT, () -> x.press(0, 12));
        due.is("leaving", x.press(0, 1), NONE);
        due.refused("press while AWAY", x, Due.STATE, () -> x.press(0, 1));
        due.refused("press 12 while AWAY", x, Due.ARGUMENT, () -> x.press(0, 12));
        x.signOn(3, 1);
        due.refused("press while RINGING", x, Due.STATE, () -> x.press(0, 1));
        x.pick(0);
        due.refused("press while TALKING", x, Due.STATE, () -> x.press(0, 1));
        x.finish(3);
        due.refused("press while OVER", x, Due.STATE, () -> x.press(0, 1));
        due.refused("press 12 while OVER", x, Due.ARGUMENT, () -> x.press(0, 12));
    }

    private void pressAnswers() {
        Menuline x = new Menuline();
        x.menu(0);
        x.key(0, 10, 1);
        x.key(0, 19, 2);
        x.queue(1, 0, 0, 500, 30, NONE);
        x.say(2, 60, NONE);
        due.is("a digit to a queue", x.press(x.call(0), 0), 1);
        due.is("a digit to a say", x.press(x.call(0), 9), 2);
        x.signOn(4, 1);
        x.signOn(5, 1);
        due.is("a digit to a queue where it is taken at once", x.press(x.call(0), 0), NONE);
        due.is("it talks", x.state(2), Menuline.TALKING);
        due.is("with", x.callOf(5), 2);
        Menuline y = new Menuline();
        y.queue(0, 0, 0, 500, 30, 1);
        y.leaving(0, NONE);
        due.is("a digit to the end", y.press(y.call(0), 1), NONE);
        due.is("it is over", y.end(0), Menuline.ENDED);
    }

    private void hang() {
        Menuline x = withCallback();
        x.say(2, 60, NONE);
        due.is("a call", x.hang(x.call(2)), Menuline.IN_FLOW);
        due.is("it is over", x.state(0), Menuline.OVER);
        due.is("as", x.end(0), Menuline.HUNG);
        due.is("at no node", x.nodeOf(0), NONE);
        due.refused("hang once more", x, Due.STATE, () -> x.hang(0));
        x.call(0);
        due.is("one waits", x.waiting(0), 1);
        due.is("one that waits", x.hang(1), Menuline.WAITING);
        due.is("nobody waits", x.waiting(0), 0);
        due.is("its place", x.placeOf(1), NONE);
        due.is("its place by replay", x.placeByReplay(1), NONE);
        x.press(x.call(0), 1);
        due.is("one that is AWAY", x.hang(2), Menuline.AWAY);
        due.is("nobody waits", x.waiting(0), 0);
        due.is("as", x.end(2), Menuline.HUNG);
        due.refused("hang -1", x, Due.INDEX, () -> x.hang(-1));
        due.refused("hang 3", x, Due.INDEX, () -> x.hang(3));
        due.is("no way", x.ways(0, NONE) + x.ways(2, NONE), 0);
        x.say(3, 5, 4);
        x.hang(x.call(3));
        x.pass(5);
        due.is("who hung up does not go on", x.ways(3, 4), 0);
    }

    private void hangWithAgents() {
        Menuline x = withCallback();
        x.signOn(1, 1);
        x.call(0);
        due.is("one that talks", x.hang(0), Menuline.TALKING);
        due.is("the agent wraps up", x.agent(1), Menuline.WRAPPING);
        due.is("without a call", x.callOf(1), NONE);
        x.press(x.call(0), 1);
        x.call(0);
        x.pass(5);
        due.is("it rings", x.state(1), Menuline.RINGING);
        due.is("the agent calls", x.agent(1), Menuline.CALLING);
        due.is("one that rings", x.hang(1), Menuline.RINGING);
        due.is("the agent takes another one at once", x.callOf(1), 2);
        due.is("and talks", x.agent(1), Menuline.BUSY);
        x.wrap(1, 0);
        x.call(0);
        x.hang(2);
        due.is("without wrapping up takes the next one", x.callOf(1), 3);
        x.hang(3);
        due.is("without wrapping up is READY", x.agent(1), Menuline.READY);
    }

    private void pick() {
        Menuline x = withCallback();
        x.press(x.call(0), 1);
        due.refused("pick one that is AWAY", x, Due.STATE, () -> x.pick(0));
        x.signOn(5, 1);
        x.pass(5);
        due.is("pick", x.pick(0), 5);
        due.is("it talks", x.state(0), Menuline.TALKING);
        due.is("the agent is", x.agent(5), Menuline.BUSY);
        due.is("with", x.callOf(5), 0);
        due.refused("pick once more", x, Due.STATE, () -> x.pick(0));
        x.pass(20);
        due.is("it still talks", x.state(0), Menuline.TALKING);
        x.finish(5);
        due.refused("pick one that is over", x, Due.STATE, () -> x.pick(0));
        due.refused("pick -1", x, Due.INDEX, () -> x.pick(-1));
        due.refused("pick 1", x, Due.INDEX, () -> x.pick(1));
        x.call(0);
        due.refused("pick one that waits", x, Due.STATE, () -> x.pick(1));
    }

    private void nobodyPicksUp() {
        Menuline x = withCallback();
        x.press(x.call(0), 1);
        x.signOn(0, 1);
        x.pass(5);
        due.is("five ticks", x.state(0), Menuline.RINGING);
        due.is("who rings does not wait", x.waiting(0), 0);
        due.is("and has no place", x.placeOf(0), NONE);
        due.is("by replay", x.placeByReplay(0), NONE);
        x.pass(1);
        due.is("six ticks", x.state(0), Menuline.AWAY);
        due.is("it waits again", x.waiting(0), 1);
        due.is("it has a place", x.placeOf(0), 0);
        due.is("by replay", x.placeByReplay(0), 0);
        due.is("the agent is READY at once", x.agent(0), Menuline.READY);
        due.is("and has no call", x.callOf(0), NONE);
        x.signOn(1, 1);
        due.is("another agent cannot take it", x.callOf(1), NONE);
        x.pass(29);
        due.is("29 ticks later", x.state(0), Menuline.AWAY);
        x.pass(1);
        due.is("30 ticks later", x.state(0), Menuline.RINGING);
        due.is("by the one who is READY for longer", x.callOf(0), 0);
        x.pass(5);
        due.is("not lost ahead of six ticks", x.end(0), NONE);
        x.pass(1);
        due.is("not picked up twice", x.end(0), Menuline.LOST);
        due.is("over", x.state(0), Menuline.OVER);
        due.is("nobody waits", x.waiting(0), 0);
        due.is("READY at once", x.agent(0), Menuline.READY);
        picksUpOnceInTwo();
        takesAnotherOneMeanwhile();
    }

    private void takesAnotherOneMeanwhile() {
        Menuline x = withCallback();
        x.press(x.call(0), 1);
        x.signOn(0, 1);
        x.pass(6);
        x.call(0);
        due.is("the agent talks with another one", x.callOf(0), 1);
        due.is("the one that rang is taken back", x.hang(0), Menuline.AWAY);
        due.is("that leaves the agent", x.agent(0), Menuline.BUSY);
        due.is("with the other one", x.callOf(0), 1);
    }

    /** How often it was not picked up counts from the CALLBACK on, and so does the time ahead of which it can't be taken. */
    private void picksUpOnceInTwo() {
        Menuline x = withCallback();
        x.wrap(0, 0);
        x.press(x.call(0), 1);
        x.signOn(0, 1);
        x.pass(36);
        due.is("it rings again", x.state(0), Menuline.RINGING);
        x.pick(0);
        x.signOff(5);
        x.signOn(1, 2);
        x.transfer(0, 0);
        due.is("taken at once from the queue", x.state(0), Menuline.TALKING);
        x.finish(0);
        Menuline y = withCallback();
        y.press(y.call(0), 1);
        y.signOn(0, 1);
        y.pass(36);
        y.pick(0);
        y.transfer(0, 0);
        due.is("it waits", y.state(0), Menuline.WAITING);
        y.press(0, 1);
        due.is("it is AWAY anew", y.state(0), Menuline.AWAY);
        y.pass(5);
        due.is("it rings", y.state(0), Menuline.RINGING);
        y.pass(6);
        due.is("once", y.state(0), Menuline.AWAY);
        y.pass(36);
        due.is("twice", y.end(0), Menuline.LOST);
    }

    private void whatIsRefused() {
        Menuline x = new Menuline();
        x.call(0);
        for (int call : new int[] {-1, 1, 59, 60, Integer.MIN_VALUE, Integer.MAX_VALUE}) {
            due.refused("state " + call, x, Due.INDEX, () -> x.state(call));
            due.refused("end " + call, x, Due.INDEX, () -> x.end(call));
            due.refused("nodeOf " + call, x, Due.INDEX, () -> x.nodeOf(call));
            due.refused("numberOf " + call, x, Due.INDEX, () -> x.numberOf(call));
            due.refused("placeOf " + call, x, Due.INDEX, () -> x.placeOf(call));
            due.refused("placeByReplay " + call, x, Due.INDEX, () -> x.placeByReplay(call));
        }
        for (int skill : new int[] {-1, 6, 32, Integer.MIN_VALUE, Integer.MAX_VALUE}) {
            due.refused("waiting " + skill, x, Due.ARGUMENT, () -> x.waiting(skill));
        }
        for (int skill = 0; skill <= 5; skill++) {
            due.is("waiting " + skill, x.waiting(skill), 0);
        }
        for (int node : new int[] {-1, 30, Integer.MIN_VALUE, Integer.MAX_VALUE}) {
            due.refused("ways from " + node, x, Due.INDEX, () -> x.ways(node, 0));
            due.refused("begun " + node, x, Due.INDEX, () -> x.begun(node));
        }
        for (int node : new int[] {-2, 30, Integer.MIN_VALUE, Integer.MAX_VALUE}) {
            due.refused("ways to " + node, x, Due.INDEX, () -> x.ways(0, node));
        }
    }

    private void numbersAndNodes() {
        Menuline x = withCallback();
        x.input(2, 3, 3, 0);
        x.call(2);
        due.is("IN_FLOW at", x.nodeOf(0), 2);
        Due.pressAll(x, 0, "815");
        due.is("WAITING at", x.nodeOf(0), 0);
        due.is("its number", x.numberOf(0), 815);
        due.is("another call's number", x.numberOf(x.call(0)), 0);
        x.hang(1);
        x.press(0, 1);
        due.is("AWAY at", x.nodeOf(0), NONE);
        x.signOn(0, 1);
        due.is("RINGING at", x.nodeOf(0), NONE);
        x.pick(0);
        due.is("TALKING at", x.nodeOf(0), NONE);
        due.is("TALKING, its number", x.numberOf(0), 815);
        x.finish(0);
        due.is("OVER at", x.nodeOf(0), NONE);
        due.is("OVER, its number", x.numberOf(0), 815);
        due.is("OVER as", x.end(0), Menuline.DONE);
    }

    private void places(Menuline x, String when, int... places) {
        for (int call = 0; call < places.length; call++) {
            due.is(when + ": placeOf " + call, x.placeOf(call), places[call]);
            due.is(when + ": placeByReplay " + call, x.placeByReplay(call), places[call]);
        }
    }

    private void placesByScore() {
        Menuline x = new Menuline();
        for (int priority = 0; priority < 10; priority++) {
            x.queue(priority, 2, priority, 500, 30, NONE);
        }
        x.queue(10, 3, 9, 500, 30, NONE);
        x.call(0);
        x.pass(9);
        x.call(1);
        x.call(10);
        places(x, "19 and 20", 1, 0, 0);
        x.pass(1);
        places(x, "20 and 22", 1, 0, 0);
        Menuline y = new Menuline();
        y.queue(0, 0, 0, 500, 30, NONE);
        y.queue(1, 0, 1, 500, 30, NONE);
        y.queue(9, 0, 9, 500, 30, NONE);
        y.call(0);
        y.pass(11);
        y.call(1);
        places(y, "21 and 20", 0, 1);
        y.pass(1);
        places(y, "22 and 22", 0, 1);
        y.pass(1);
        places(y, "23 and 24", 1, 0);
        y.call(9);
        places(y, "23, 24 and 100", 2, 1, 0);
        y.pass(70);
        places(y, "later", 2, 1, 0);
        y.call(0);
        y.call(9);
        places(y, "later still", 3, 1, 0, 4, 2);
    }

    private void placesOfEqualScore() {
        Menuline x = new Menuline();
        x.queue(0, 0, 4, 500, 30, NONE);
        x.queue(1, 0, 0, 500, 30, NONE);
        for (int i = 0; i < 5; i++) {
            x.call(0);
        }
        places(x, "the lower number", 0, 1, 2, 3, 4);
        x.hang(2);
        places(x, "one less", 0, 1, NONE, 2, 3);
        Menuline y = new Menuline();
        y.queue(0, 0, 1, 500, 30, NONE);
        y.queue(1, 0, 0, 500, 30, NONE);
        y.call(1);
        y.pass(10);
        y.call(0);
        places(y, "20 and 20", 0, 1);
    }

    private void placesOfAway() {
        Menuline x = withCallback();
        x.queue(2, 0, 9, 500, 30, NONE);
        x.call(0);
        x.pass(3);
        x.call(0);
        x.pass(3);
        x.call(0);
        x.press(1, 1);
        places(x, "one is AWAY", 0, 1, 2);
        due.is("three wait", x.waiting(0), 3);
        x.press(0, 1);
        x.signOn(0, 1);
        places(x, "one rings", NONE, 0, 1);
        due.is("two wait", x.waiting(0), 2);
        x.pass(6);
        due.is("the next one rings", x.callOf(0), 1);
        places(x, "its old place again", 0, NONE, 1);
        x.call(2);
        places(x, "behind a high priority", 1, NONE, 2, 0);
        x.pick(1);
        x.finish(0);
        x.pass(5);
        due.is("who can't be taken yet is ahead, too", x.callOf(0), 3);
        x.hang(2);
        places(x, "one is left", 0, NONE, NONE, NONE);
    }

    /** Many more beginnings and ends of waiting than there are calls. */
    private void placesBehindManyWaits() {
        Menuline x = new Menuline();
        x.queue(0, 0, 0, 1, 30, 1);
        x.queue(1, 1, 2, 1, 30, 0);
        x.queue(2, 1, 1, 500, 30, 3);
        x.callback(3);
        x.leaving(2, 3);
        x.queue(4, 0, 4, 2, 30, 5);
        x.queue(5, 2, 1, 1, 30, 4);
        x.say(6, 3, 2);
        int[] nodes = {0, 2, 1, 4, 5, 2};
        x.call(6);
        for (int call = 1; call < 42; call++) {
            x.call(nodes[call % 6]);
        }
        x.press(1, 1);
        x.press(11, 1);
        for (int round = 0; round < 60; round++) {
            x.pass(7);
            for (int call = 0; call < 42; call++) {
                due.is("round " + round + ": " + call, x.placeByReplay(call), x.placeOf(call));
            }
            if (round % 2 == 1) {
                x.hang(1 + round / 2);
            }
        }
        int[] longest = {31, 35, 37, 41, 0};
        for (int place = 0; place < 5; place++) {
            due.is("who waits for longest", x.placeOf(longest[place]), place);
            due.is("and by replay", x.placeByReplay(longest[place]), place);
        }
    }

    private void ways() {
        Menuline x = new Menuline();
        x.say(0, 1, 29);
        x.say(29, 1, 0);
        x.call(0);
        x.pass(99);
        due.is("ways 0 29", x.ways(0, 29), 50);
        due.is("ways 29 0", x.ways(29, 0), 49);
        due.is("ways 0 NONE", x.ways(0, NONE), 0);
        x.hang(0);
        due.is("hanging up is no way", x.ways(29, NONE) + x.ways(0, NONE), 0);
        x.say(29, 1, NONE);
        x.call(29);
        x.pass(1);
        due.is("ways 29 NONE", x.ways(29, NONE), 1);
        due.is("ways 28 29", x.ways(28, 29), 0);
    }

    private void begun() {
        Menuline x = withCallback();
        x.signOn(0, 1);
        x.wrap(0, 0);
        x.call(0);
        x.call(1);
        due.is("begun 0", x.begun(0), 1);
        due.is("begun 1", x.begun(1), 1);
        x.transfer(0, 29);
        due.is("begun 29 by a transfer", x.begun(29), 1);
        due.is("begun 0", x.begun(0), 1);
        x.say(3, 1, 4);
        x.call(3);
        x.pass(1);
        due.is("who comes from a node", x.begun(4), 0);
    }
}
