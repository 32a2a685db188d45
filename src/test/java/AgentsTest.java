/** Promises 20 to 25, 34 and 35: agents, how they take calls, and how ticks pass. */
public final class AgentsTest {
    private static final int NONE = Menuline.NONE;
    private final Due due = new Due("AgentsTest");

    public static void main(String[] args) {
        AgentsTest test = new AgentsTest();
        test.signOn();
        test.signOnKeepsTheTime();
        test.signOnWhileWrapping();
        test.signOff();
        test.agentsRefused();
        test.wrap();
        test.finish();
        test.transfer();
        test.transferForgets();
        test.transferWithoutWrapping();
        test.whoTakes();
        test.whoCanTake();
        test.whatIsTaken();
        test.manyAtOnce();
        test.pass();
        test.orderInATick();
        test.due.close();
    }

    /** The queue of the skill s is the node s, with the priority p at the node 6 + p for the skill 0. */
    private static Menuline queues() {
        Menuline x = new Menuline();
        for (int skill = 0; skill < 6; skill++) {
            x.queue(skill, skill, 0, 500, 30, NONE);
        }
        for (int priority = 0; priority < 10; priority++) {
            x.queue(6 + priority, 0, priority, 500, 30, NONE);
        }
        x.queue(20, 0, 0, 500, 30, NONE);
        x.leaving(20, 21);
        x.callback(21);
        return x;
    }

    private void signOn() {
        Menuline x = queues();
        due.is("nobody waits", x.signOn(0, 63), NONE);
        due.is("READY", x.agent(0), Menuline.READY);
        due.is("without a call", x.callOf(0), NONE);
        x.call(3);
        due.is("taken at once", x.state(0), Menuline.TALKING);
        due.is("BUSY", x.agent(0), Menuline.BUSY);
        due.is("with", x.callOf(0), 0);
        x.call(3);
        x.call(4);
        due.is("no call for these skills", x.signOn(1, 63 - 8 - 16), NONE);
        due.is("READY all the same", x.agent(1), Menuline.READY);
        due.is("more skills", x.signOn(1, 16), 2);
        due.is("BUSY", x.agent(1), Menuline.BUSY);
        due.is("skills of another one", x.signOn(2, 8), 1);
        x.press(x.call(20), 1);
        due.is("one that is AWAY", x.signOn(3, 1), 3);
        due.is("CALLING", x.agent(3), Menuline.CALLING);
        due.is("it is", x.callOf(3), 3);
    }

    private void signOnKeepsTheTime() {
        Menuline x = queues();
        x.signOn(1, 1);
        x.pass(1);
        x.signOn(0, 1);
        x.pass(1);
        due.is("with other skills", x.signOn(1, 3), NONE);
        x.call(0);
        due.is("who is READY for longer", x.callOf(1), 0);
        Menuline y = queues();
        y.signOn(1, 1);
        y.pass(1);
        y.signOn(0, 1);
        y.pass(1);
        y.signOff(1);
        y.signOn(1, 1);
        y.call(0);
        due.is("who was OFF is READY since now", y.callOf(0), 0);
    }

    private void signOnWhileWrapping() {
        Menuline x = queues();
        x.signOn(0, 1);
        x.call(0);
        x.finish(0);
        x.call(1);
        x.pass(2);
        due.is("nothing is taken", x.signOn(0, 2), NONE);
        due.is("still WRAPPING", x.agent(0), Menuline.WRAPPING);
        x.pass(2);
        due.is("up to its end", x.agent(0), Menuline.WRAPPING);
        x.pass(1);
        due.is("with the new skills", x.callOf(0), 1);
    }

    private void signOff() {
        Menuline x = queues();
        due.is("who is OFF", x.signOff(0), Menuline.OFF);
        x.signOn(0, 1);
        due.is("who is READY", x.signOff(0), Menuline.READY);
        due.is("OFF then", x.agent(0), Menuline.OFF);
        x.call(0);
        due.is("takes nothing", x.callOf(0), NONE);
        due.is("it waits", x.state(0), Menuline.WAITING);
        due.is("takes it then", x.signOn(0, 1), 0);
        due.refused("signOff while BUSY", x, Due.STATE, () -> x.signOff(0));
        due.refused("signOn while BUSY", x, Due.STATE, () -> x.signOn(0, 2));
        x.finish(0);
        due.is("who is WRAPPING", x.signOff(0), Menuline.WRAPPING);
        x.pass(10);
        due.is("stays OFF", x.agent(0), Menuline.OFF);
        x.signOn(0, 1);
        due.is("READY at once", x.agent(0), Menuline.READY);
        x.call(0);
        due.is("and takes the next call", x.agent(0), Menuline.BUSY);
    }

    private void agentsRefused() {
        Menuline x = queues();
        x.press(x.call(20), 1);
        x.signOn(0, 1);
        x.signOn(1, 1);
        x.call(0);
        due.is("CALLING", x.agent(0), Menuline.CALLING);
        due.is("BUSY", x.agent(1), Menuline.BUSY);
        for (int agent : new int[] {-1, 6, Integer.MIN_VALUE, Integer.MAX_VALUE}) {
            due.refused("signOn " + agent, x, Due.INDEX, () -> x.signOn(agent, 0));
            due.refused("signOff " + agent, x, Due.INDEX, () -> x.signOff(agent));
            due.refused("wrap " + agent, x, Due.INDEX, () -> x.wrap(agent, 31));
            due.refused("finish " + agent, x, Due.INDEX, () -> x.finish(agent));
            due.refused("transfer " + agent, x, Due.INDEX, () -> x.transfer(agent, 0));
            due.refused("agent " + agent, x, Due.INDEX, () -> x.agent(agent));
            due.refused("callOf " + agent, x, Due.INDEX, () -> x.callOf(agent));
        }
        for (int skills : new int[] {0, 64, -1, Integer.MIN_VALUE, Integer.MAX_VALUE}) {
            due.refused("skills " + skills, x, Due.ARGUMENT, () -> x.signOn(2, skills));
            due.refused("skills " + skills + " while BUSY", x, Due.ARGUMENT, () -> x.signOn(1, skills));
        }
        for (int agent : new int[] {0, 1}) {
            due.refused("signOn", x, Due.STATE, () -> x.signOn(agent, 1));
            due.refused("signOff", x, Due.STATE, () -> x.signOff(agent));
        }
        due.refused("wrap -1", x, Due.ARGUMENT, () -> x.wrap(0, -1));
        due.refused("wrap 31", x, Due.ARGUMENT, () -> x.wrap(0, 31));
        due.is("wrap is as before", x.wrap(0, 30), 5);
        due.is("the most", x.wrap(0, 0), 30);
        due.is("the least", x.wrap(0, 5), 0);
        for (int agent : new int[] {0, 2}) {
            due.refused("finish, not BUSY", x, Due.STATE, () -> x.finish(agent));
            due.refused("transfer, not BUSY", x, Due.STATE, () -> x.transfer(agent, 0));
        }
        for (int node : new int[] {-1, 30, -2}) {
            due.refused("transfer to " + node, x, Due.INDEX, () -> x.transfer(1, node));
            due.refused("transfer, not BUSY, to " + node, x, Due.INDEX, () -> x.transfer(2, node));
        }
    }

    private void wrap() {
        Menuline x = queues();
        x.signOn(0, 1);
        for (int ticks : new int[] {1, 2, 7, 30}) {
            x.wrap(0, ticks);
            int call = x.call(0);
            due.is("finish", x.finish(0), call);
            for (int tick = 1; tick <= ticks; tick++) {
                due.is("ahead of its end", x.agent(0), Menuline.WRAPPING);
                x.pass(1);
            }
            due.is("at its end", x.agent(0), Menuline.READY);
        }
        x.wrap(0, 3);
        x.call(0);
        due.is("while the talk goes on", x.wrap(0, 4), 3);
        x.finish(0);
        due.is("while wrapping up", x.wrap(0, 0), 4);
        x.pass(3);
        due.is("the wrapping goes on", x.agent(0), Menuline.WRAPPING);
        x.pass(1);
        due.is("for the ticks that were set", x.agent(0), Menuline.READY);
        x.call(0);
        x.finish(0);
        due.is("at once with 0", x.agent(0), Menuline.READY);
        due.is("another one's", x.wrap(1, 0), 5);
    }

    private void finish() {
        Menuline x = queues();
        x.signOn(3, 1);
        x.call(5);
        x.call(0);
        due.is("finish", x.finish(3), 1);
        due.is("over", x.state(1), Menuline.OVER);
        due.is("as", x.end(1), Menuline.DONE);
        due.is("no call", x.callOf(3), NONE);
        due.is("WRAPPING", x.agent(3), Menuline.WRAPPING);
        due.refused("finish once more", x, Due.STATE, () -> x.finish(3));
        x.wrap(3, 0);
        x.pass(5);
        x.call(0);
        x.call(0);
        due.is("finish", x.finish(3), 2);
        due.is("the next one at once", x.callOf(3), 3);
        due.is("no way", x.ways(0, NONE), 0);
    }

    private void transfer() {
        Menuline x = queues();
        x.say(25, 60, NONE);
        x.input(26, 2, 2, 0);
        x.signOn(0, 1);
        x.call(26);
        Due.pressAll(x, 0, "77");
        due.is("it talks", x.state(0), Menuline.TALKING);
        due.is("transfer", x.transfer(0, 25), 0);
        due.is("the call is", x.state(0), Menuline.IN_FLOW);
        due.is("at", x.nodeOf(0), 25);
        due.is("with its number", x.numberOf(0), 77);
        due.is("it has no end", x.end(0), NONE);
        due.is("the agent wraps up", x.agent(0), Menuline.WRAPPING);
        due.is("without a call", x.callOf(0), NONE);
        due.is("begun", x.begun(25), 1);
        due.is("no way", x.ways(0, 25), 0);
        x.pass(60);
        due.is("it goes on", x.ways(25, NONE), 1);
        x.signOn(1, 1);
        x.call(0);
        due.is("to its own queue", x.transfer(0, 0), 1);
        due.is("to another agent", x.callOf(1), 1);
        x.transfer(1, 29);
        due.is("to the end", x.end(1), Menuline.ENDED);
    }

    private void transferForgets() {
        Menuline x = queues();
        x.callback(25);
        x.sub(26, 0, 28);
        x.back(27);
        x.say(28, 60, NONE);
        x.signOn(0, 1);
        x.call(26);
        x.transfer(0, 27);
        due.is("no node to come back to", x.end(0), Menuline.ENDED);
        due.is("its way", x.ways(27, NONE), 1);
        x.pass(5);
        x.call(0);
        x.transfer(0, 25);
        due.is("no claim", x.end(1), Menuline.ENDED);
        x.pass(5);
        x.signOff(0);
        x.press(x.call(20), 1);
        x.signOn(0, 1);
        x.pick(2);
        x.transfer(0, 25);
        due.is("no claim behind a callback", x.end(2), Menuline.ENDED);
    }

    private void transferWithoutWrapping() {
        Menuline x = queues();
        x.branch(25, Menuline.FREE, 0, 0, 26, 27);
        x.wrap(0, 0);
        x.signOn(0, 1);
        x.call(0);
        x.call(0);
        x.transfer(0, 25);
        due.is("the agent is READY at once", x.ways(25, 26), 1);
        due.is("and takes the next one", x.callOf(0), 1);
        x.call(0);
        x.pass(10);
        x.transfer(0, 15);
        due.is("the call comes to its node ahead of the taking", x.callOf(0), 1);
        due.is("the other one waits", x.state(2), Menuline.WAITING);
    }

    private void whoTakes() {
        Menuline x = queues();
        x.signOn(4, 1);
        x.signOn(2, 1);
        x.signOn(5, 1);
        x.pass(1);
        x.signOn(0, 1);
        int[] order = {2, 4, 5, 0};
        for (int call = 0; call < 4; call++) {
            x.call(0);
            due.is("of several the lowest, the longest first: " + call, x.callOf(order[call]), call);
        }
        x.wrap(5, 2);
        x.finish(0);
        x.pass(3);
        x.finish(5);
        x.pass(2);
        due.is("5 and 0 are READY at the same time", x.agent(0) + x.agent(5), 2 * Menuline.READY);
        x.pass(1);
        x.call(0);
        due.is("of these the lowest", x.callOf(0), 4);
    }

    private void whoCanTake() {
        Menuline x = queues();
        x.signOn(0, 1);
        x.pass(1);
        x.signOn(1, 2);
        x.pass(1);
        x.signOn(2, 3);
        x.call(1);
        due.is("the longest of those who can", x.callOf(1), 0);
        x.call(1);
        due.is("the next of them", x.callOf(2), 1);
        due.is("who can't", x.agent(0), Menuline.READY);
        x.call(2);
        due.is("nobody can", x.state(2), Menuline.WAITING);
    }

    private void whatIsTaken() {
        Menuline x = queues();
        x.call(6);
        x.pass(10);
        x.call(3);
        x.call(7);
        x.call(2);
        due.is("the highest score, of several the lowest number", x.signOn(0, 63), 0);
        due.is("of another skill", x.signOn(1, 8), 1);
        due.is("then", x.signOn(2, 63), 2);
        due.is("then", x.signOn(3, 63), 3);
        Menuline y = queues();
        y.call(6);
        y.pass(9);
        y.call(7);
        due.is("19 and 20", y.signOn(0, 1), 1);
        Menuline z = queues();
        z.press(z.call(20), 1);
        z.signOn(0, 1);
        z.pass(6);
        z.call(2);
        z.pass(1);
        z.call(0);
        due.is("one ahead cannot be taken yet", z.callOf(0), 2);
        due.is("it is AWAY", z.state(0), Menuline.AWAY);
        z.finish(0);
        z.pass(28);
        due.is("not yet", z.agent(0), Menuline.READY);
        z.pass(1);
        due.is("now", z.callOf(0), 0);
    }

    private void manyAtOnce() {
        Menuline x = queues();
        for (int agent = 0; agent < 6; agent++) {
            x.signOn(agent, 63);
            x.call(0);
        }
        for (int call = 0; call < 8; call++) {
            x.call(0);
        }
        for (int agent = 5; agent >= 0; agent--) {
            x.finish(agent);
        }
        x.pass(4);
        due.is("eight wait", x.waiting(0), 8);
        x.pass(1);
        for (int agent = 0; agent < 6; agent++) {
            due.is("all of them take", x.callOf(agent), 6 + agent);
        }
        due.is("two wait", x.waiting(0), 2);
        due.is("their places", x.placeOf(13), 1);
        due.is("by replay", x.placeByReplay(13), 1);
    }

    private void pass() {
        Menuline x = new Menuline();
        for (int ticks : new int[] {0, -1, 101, Integer.MIN_VALUE, Integer.MAX_VALUE}) {
            due.refused("pass " + ticks, x, Due.ARGUMENT, () -> x.pass(ticks));
        }
        due.is("one tick", x.pass(1), 1);
        due.is("a hundred", x.pass(100), 101);
        due.is("most of all", Due.passTo(x, 101, 19950), 19950);
        due.refused("51 beyond 19950", x, Due.STATE, () -> x.pass(51));
        due.refused("101 beyond 19950", x, Due.ARGUMENT, () -> x.pass(101));
        due.is("up to the last", x.pass(50), 20000);
        due.refused("one more", x, Due.STATE, () -> x.pass(1));
        due.refused("0 at the end", x, Due.ARGUMENT, () -> x.pass(0));
        x.say(0, 1, NONE);
        due.is("calls at the end of time", x.call(0), 0);
        due.refused("still none more", x, Due.STATE, () -> x.pass(1));
        Menuline y = queues();
        y.call(0);
        due.refused("pass 0", y, Due.ARGUMENT, () -> y.pass(0));
        due.is("all calls go on", y.pass(100), 100);
    }

    /** First calls go on, by rising numbers, then wrapping ends, then calls are taken. */
    private void orderInATick() {
        Menuline x = queues();
        x.branch(25, Menuline.FREE, 0, 0, 26, 27);
        x.say(24, 5, 25);
        x.queue(23, 0, 0, 5, 30, 25);
        x.signOn(0, 1);
        x.call(0);
        x.finish(0);
        x.call(24);
        x.call(23);
        x.pass(5);
        due.is("the agent is READY", x.agent(0), Menuline.READY);
        due.is("only behind the calls", x.ways(25, 27), 2);
        due.is("the queue is left ahead of the taking", x.end(2), Menuline.ENDED);
        Menuline y = queues();
        y.branch(25, Menuline.FREE, 0, 0, 26, 27);
        y.say(24, 6, 25);
        y.say(28, 6, 0);
        y.call(24);
        y.press(y.call(20), 1);
        y.call(24);
        y.signOn(0, 1);
        y.call(28);
        y.pass(6);
        due.is("ahead of the one that rang", y.ways(25, 27), 1);
        due.is("behind the one that rang", y.ways(25, 26), 1);
        due.is("what came meanwhile is taken", y.callOf(0), 3);
        due.is("the one that rang is AWAY", y.state(1), Menuline.AWAY);
    }
}
