/** Promises 20 to 24, 34 and 35, sentence by sentence: agents. */
final class EdgesOfAgents {
    private static final int NONE = Menuline.NONE;
    private final Due due;

    EdgesOfAgents(Due due) {
        this.due = due;
    }

    void run() {
        agents();
        signOn();
        signOnAnswers();
        signOnNumbers();
        signOnRefused();
        signOff();
        signOffRefused();
        wrap();
        wrapNumbers();
        finish();
        finishRefused();
        transfer();
        transferForgets();
        transferRefused();
        agent();
        callOf();
    }

    private void refusedBut(String what, Due.Try call, int... doing) {
        for (int does = Menuline.OFF; does <= Menuline.WRAPPING; does++) {
            boolean right = false;
            for (int one : doing) {
                right |= one == does;
            }
            Menuline x = Scene.agent(does);
            if (right) {
                due.taken(what + " while the agent does " + does, () -> call.with(x, 0));
            } else {
                due.refused(what + " while the agent does " + does, x, Due.STATE, () -> call.with(x, 0));
            }
        }
    }

    /** An agent who is not there, be the others OFF, BUSY, or whatever. */
    private void noSuchAgent(int promise, String words, Due.Try call) {
        due.sentence(promise, words);
        for (int does = Menuline.OFF; does <= Menuline.WRAPPING; does++) {
            Menuline x = Scene.agent(does);
            for (int agent : new int[] {-1, 6, 7, 64, Integer.MIN_VALUE, Integer.MAX_VALUE}) {
                due.refused("the agent " + agent, x, Due.INDEX, () -> call.with(x, agent));
            }
        }
    }

    /** All six talk, the agent a with the call a. */
    private static Menuline allBusy() {
        Menuline x = Scene.quiet();
        for (int agent = 0; agent < 6; agent++) {
            x.signOn(agent, 1);
            x.call(Scene.QUEUE);
        }
        return x;
    }

    private void agents() {
        due.sentence(0, "There are the agents 0 to 5, OFF at first.");
        Menuline x = Scene.quiet();
        for (int agent = 0; agent < 6; agent++) {
            due.is("at first", x.agent(agent), Menuline.OFF);
            due.is("without a call", x.callOf(agent), NONE);
        }
        x.call(Scene.QUEUE);
        x.pass(100);
        due.is("who is OFF takes nothing", x.state(0), Menuline.WAITING);
        due.range("signOn", Scene::quiet, 0, 5, Due.INDEX, (y, n) -> y.signOn(n, 1));
        due.range("signOff", Scene::quiet, 0, 5, Due.INDEX, Menuline::signOff);
        due.range("wrap", Scene::quiet, 0, 5, Due.INDEX, (y, n) -> y.wrap(n, 0));
        due.range("finish", EdgesOfAgents::allBusy, 0, 5, Due.INDEX, Menuline::finish);
        due.range("transfer", EdgesOfAgents::allBusy, 0, 5, Due.INDEX, (y, n) -> y.transfer(n, 0));
        due.range("agent", Scene::quiet, 0, 5, Due.INDEX, Menuline::agent);
        due.range("callOf", Scene::quiet, 0, 5, Due.INDEX, Menuline::callOf);
    }

    // ---- 20

    private void signOn() {
        due.sentence(20, "An agent has some skills from now on; if the agent was OFF, READY; who was READY is so since that time "
                + "as before.");
        Menuline x = Scene.quiet();
        x.queue(20, 1, 0, 500, 30, NONE);
        x.signOn(0, 1);
        due.is("who was OFF", x.agent(0), Menuline.READY);
        x.pass(1);
        x.signOn(1, 3);
        x.pass(1);
        x.signOn(0, 2);
        due.is("who was READY", x.agent(0), Menuline.READY);
        x.call(Scene.QUEUE);
        due.is("has the skill of before no more", x.callOf(1), 0);
        x.finish(1);
        x.pass(5);
        x.call(20);
        due.is("who was READY is so for longer", x.callOf(0), 1);
        x.finish(0);
        due.is("who is WRAPPING", x.signOn(0, 1), NONE);
        due.is("goes on with it", x.agent(0), Menuline.WRAPPING);
        x.pass(4);
        due.is("to its end", x.agent(0), Menuline.WRAPPING);
        x.signOff(1);
        x.call(Scene.QUEUE);
        x.pass(1);
        due.is("and has the other skills", x.callOf(0), 2);
        Menuline y = Scene.quiet();
        y.signOn(1, 1);
        y.pass(1);
        y.signOn(0, 1);
        y.signOff(1);
        y.signOn(1, 1);
        y.call(Scene.QUEUE);
        due.is("who was OFF is READY since now", y.callOf(0), 0);
    }

    private void signOnAnswers() {
        due.sentence(20, "Returns the call that the agent takes by that; NONE if none.");
        due.is("nobody waits", Scene.quiet().signOn(0, 63), NONE);
        for (int skill = 0; skill < 6; skill++) {
            Menuline x = Scene.quiet();
            x.queue(20, skill, 0, 500, 30, NONE);
            x.call(20);
            due.is("for all other skills", x.signOn(5, 63 - (1 << skill)), NONE);
            due.is("READY", x.agent(5), Menuline.READY);
            due.is("for one more skill", x.signOn(5, 63), 0);
            due.is("BUSY", x.agent(5), Menuline.BUSY);
            x.call(20);
            due.is("for that skill alone", x.signOn(0, 1 << skill), 1);
        }
        Menuline y = Scene.with(Menuline.AWAY);
        due.is("one that is AWAY", y.signOn(3, 1), 0);
        due.is("CALLING", y.agent(3), Menuline.CALLING);
        y.pass(6);
        y.signOff(3);
        y.pass(29);
        due.is("one that can't be taken yet", y.signOn(3, 1), NONE);
        y.pass(1);
        due.is("it is taken then", y.callOf(3), 0);
        Menuline z = Scene.calls(59);
        z.call(Scene.QUEUE);
        due.is("the last call", z.signOn(0, 1), 59);
    }

    private void signOnNumbers() {
        due.sentence(20, "skills: 1 to 63: the set of skills");
        due.range("skills", Scene::quiet, 1, 63, Due.ARGUMENT, (x, n) -> x.signOn(0, n));
        for (int skills = 1; skills <= 63; skills++) {
            Menuline x = Scene.quiet();
            for (int skill = 0; skill < 6; skill++) {
                x.branch(20 + skill, Menuline.FREE, skill, 0, 28, 29);
            }
            x.signOn(2, skills);
            for (int skill = 0; skill < 6; skill++) {
                x.call(20 + skill);
                due.is("the skill " + skill + " in " + skills, x.ways(20 + skill, 28), skills / (1 << skill) % 2);
            }
        }
        due.sentence(20, "Throws IllegalArgumentException if skills is out of range");
        for (int does = Menuline.OFF; does <= Menuline.WRAPPING; does++) {
            Menuline x = Scene.agent(does);
            for (int skills : new int[] {0, 64, -1, 127, 128, Integer.MIN_VALUE, Integer.MAX_VALUE}) {
                due.refused("skills " + skills, x, Due.ARGUMENT, () -> x.signOn(0, skills));
            }
        }
    }

    private void signOnRefused() {
        due.sentence(20, "Throws IllegalStateException if the agent is BUSY or CALLING");
        for (int skills : new int[] {1, 2, 63}) {
            refusedBut("signOn", (x, n) -> x.signOn(n, skills), Menuline.OFF, Menuline.READY, Menuline.WRAPPING);
        }
        noSuchAgent(20, "Throws IndexOutOfBoundsException if there is no such agent", (x, n) -> x.signOn(n, 1));
        noSuchAgent(20, "Throws IndexOutOfBoundsException if there is no such agent", (x, n) -> x.signOn(n, 0));
    }

    // ---- 21

    private void signOff() {
        due.sentence(21, "Returns what the agent did.");
        for (int does : new int[] {Menuline.OFF, Menuline.READY, Menuline.WRAPPING}) {
            due.is("signOff", Scene.agent(does).signOff(0), does);
        }
        due.sentence(21, "An agent is OFF from now on.");
        for (int does : new int[] {Menuline.OFF, Menuline.READY, Menuline.WRAPPING}) {
            Menuline x = Scene.agent(does);
            x.signOff(0);
            due.is("OFF", x.agent(0), Menuline.OFF);
            due.is("without a call", x.callOf(0), NONE);
            due.is("OFF before", x.signOff(0), Menuline.OFF);
            int call = x.call(Scene.QUEUE);
            x.pass(30);
            due.is("still OFF", x.agent(0), Menuline.OFF);
            due.is("it waits", x.state(call), Menuline.WAITING);
            due.is("READY at once behind that", x.signOn(0, 1), call);
        }
    }

    private void signOffRefused() {
        due.sentence(21, "Throws IllegalStateException if the agent is BUSY or CALLING");
        refusedBut("signOff", Menuline::signOff, Menuline.OFF, Menuline.READY, Menuline.WRAPPING);
        noSuchAgent(21, "Throws IndexOutOfBoundsException if there is no such agent", Menuline::signOff);
    }

    // ---- 22

    private void wrap() {
        due.sentence(22, "Sets for how many ticks an agent wraps up from the next talk that ends on.");
        for (int ticks = 0; ticks <= 30; ticks++) {
            Menuline x = Scene.agent(Menuline.BUSY);
            x.wrap(0, ticks);
            x.finish(0);
            for (int tick = 0; tick < ticks; tick++) {
                due.is("wraps up for " + ticks, x.agent(0), Menuline.WRAPPING);
                x.pass(1);
            }
            due.is("READY behind " + ticks, x.agent(0), Menuline.READY);
        }
        Menuline x = Scene.agent(Menuline.WRAPPING);
        x.wrap(0, 0);
        x.pass(4);
        due.is("not the talk that has ended", x.agent(0), Menuline.WRAPPING);
        x.wrap(0, 30);
        x.pass(1);
        due.is("for which it was 5", x.agent(0), Menuline.READY);
        x.call(Scene.QUEUE);
        x.hang(1);
        x.pass(29);
        due.is("the next one, hung up", x.agent(0), Menuline.WRAPPING);
        x.pass(1);
        due.is("for which it is 30", x.agent(0), Menuline.READY);
        x.call(Scene.QUEUE);
        x.transfer(0, Scene.BLANK);
        x.pass(29);
        due.is("and the one behind it, transferred", x.agent(0), Menuline.WRAPPING);
        x.pass(1);
        due.is("is the same", x.agent(0), Menuline.READY);
    }

    private void wrapNumbers() {
        due.sentence(22, "ticks: 0 to 30");
        due.range("ticks", Scene::quiet, 0, 30, Due.ARGUMENT, (x, n) -> x.wrap(0, n));
        due.sentence(22, "Returns what was set before.");
        Menuline x = Scene.quiet();
        for (int agent = 0; agent < 6; agent++) {
            due.is("at first", x.wrap(agent, 0), 5);
            for (int ticks = 1; ticks <= 30; ticks++) {
                due.is("before", x.wrap(agent, ticks), ticks - 1);
            }
        }
        due.is("before", x.wrap(0, 30), 30);
        due.sentence(22, "Throws IllegalArgumentException if ticks is out of range");
        for (int does = Menuline.OFF; does <= Menuline.WRAPPING; does++) {
            int doing = does;
            due.range("ticks", () -> Scene.agent(doing), 0, 30, Due.ARGUMENT, (y, n) -> y.wrap(0, n));
        }
        noSuchAgent(22, "Throws IndexOutOfBoundsException if there is no such agent", (y, n) -> y.wrap(n, 0));
        noSuchAgent(22, "Throws IndexOutOfBoundsException if there is no such agent", (y, n) -> y.wrap(n, 31));
    }

    // ---- 23

    private void finish() {
        due.sentence(23, "Returns the call.");
        Menuline x = allBusy();
        for (int agent = 0; agent < 6; agent++) {
            due.is("finish", x.finish(agent), agent);
        }
        Menuline y = Scene.calls(59);
        y.signOn(5, 1);
        y.call(Scene.QUEUE);
        due.is("the last call", y.finish(5), 59);
        due.sentence(23, "An agent ends the talk; the call is over, as DONE.");
        due.is("over", y.state(59), Menuline.OVER);
        due.is("as", y.end(59), Menuline.DONE);
        due.is("at no node", y.nodeOf(59), NONE);
        due.is("the agent wraps up", y.agent(5), Menuline.WRAPPING);
        due.is("without a call", y.callOf(5), NONE);
        due.is("no way", y.ways(Scene.QUEUE, NONE), 0);
        Menuline z = Scene.with(Menuline.RINGING);
        z.pick(0);
        due.is("a call that was picked up", z.finish(0), 0);
        due.is("over as", z.end(0), Menuline.DONE);
    }

    private void finishRefused() {
        due.sentence(23, "Throws IllegalStateException if the agent is not BUSY");
        refusedBut("finish", Menuline::finish, Menuline.BUSY);
        Menuline x = Scene.agent(Menuline.BUSY);
        x.wrap(0, 0);
        x.finish(0);
        due.refused("finish once more", x, Due.STATE, () -> x.finish(0));
        noSuchAgent(23, "Throws IndexOutOfBoundsException if there is no such agent", Menuline::finish);
    }

    // ---- 24

    private void transfer() {
        due.sentence(24, "node: 0 to 29");
        due.range("node", () -> Scene.agent(Menuline.BUSY), 0, 29, Due.INDEX, (x, n) -> x.transfer(0, n));
        due.sentence(24, "Returns the call.");
        Menuline x = allBusy();
        for (int agent = 0; agent < 6; agent++) {
            due.is("transfer", x.transfer(agent, Scene.SAY), agent);
            due.is("at its node", x.nodeOf(agent), Scene.SAY);
            due.is("IN_FLOW", x.state(agent), Menuline.IN_FLOW);
            due.is("not over", x.end(agent), NONE);
            due.is("the agent wraps up", x.agent(agent), Menuline.WRAPPING);
            due.is("without a call", x.callOf(agent), NONE);
        }
        due.is("from outside", x.begun(Scene.SAY), 6);
        due.is("not from its node", x.ways(Scene.QUEUE, Scene.SAY), 0);
        Menuline y = Scene.agent(Menuline.BUSY);
        due.is("to the end", y.transfer(0, Scene.BLANK), 0);
        due.is("over as", y.end(0), Menuline.ENDED);
        due.is("by its way", y.ways(Scene.BLANK, NONE), 1);
    }

    private void transferForgets() {
        due.sentence(24, "An agent ends the talk, and then the call comes to a node, with its number, but without nodes to which "
                + "it would come back, and without a claim.");
        Menuline x = Scene.quiet();
        x.input(20, 1, 6, 21);
        x.sub(21, 22, Scene.SAY);
        x.sub(22, 23, Scene.SAY);
        x.sub(23, 24, Scene.SAY);
        x.sub(24, 0, Scene.SAY);
        x.signOn(0, 1);
        x.wrap(0, 0);
        Due.pressAll(x, x.call(20), "999999");
        due.is("it talks", x.callOf(0), 0);
        x.transfer(0, 21);
        due.is("four nodes once more", x.callOf(0), 0);
        due.is("its number", x.numberOf(0), 999999);
        x.transfer(0, Scene.BACK);
        due.is("no node to come back to", x.end(0), Menuline.ENDED);
        due.is("by its way", x.ways(Scene.BACK, NONE), 1);
        for (int how = 0; how < 2; how++) {
            Menuline y = Scene.with(how == 0 ? Menuline.TALKING : Menuline.RINGING);
            if (how == 1) {
                y.pick(0);
            }
            y.transfer(0, Scene.CALLBACK);
            due.is("without a claim", y.end(0), Menuline.ENDED);
            due.is("nobody waits", y.waiting(0), 0);
        }
        Menuline z = Scene.with(Menuline.TALKING);
        z.pass(100);
        z.call(Scene.QUEUE);
        z.transfer(0, Scene.QUEUE);
        due.is("a claim since now", z.placeOf(0), 0);
        z.pass(1);
        due.is("of the lower number", z.placeOf(1), 1);
    }

    private void transferRefused() {
        due.sentence(24, "Throws IllegalStateException if the agent is not BUSY");
        refusedBut("transfer", (x, n) -> x.transfer(n, Scene.SAY), Menuline.BUSY);
        noSuchAgent(24, "Throws IndexOutOfBoundsException if there is no such agent or node", (x, n) -> x.transfer(n, 0));
        for (int does = Menuline.OFF; does <= Menuline.WRAPPING; does++) {
            Menuline x = Scene.agent(does);
            for (int node : new int[] {NONE, 30, -2, Integer.MIN_VALUE, Integer.MAX_VALUE}) {
                due.refused("to the node " + node, x, Due.INDEX, () -> x.transfer(0, node));
                due.refused("of no agent to the node " + node, x, Due.INDEX, () -> x.transfer(6, node));
            }
        }
    }

    // ---- 34, 35

    private void agent() {
        due.sentence(34, "Returns what an agent does.");
        for (int does = Menuline.OFF; does <= Menuline.WRAPPING; does++) {
            Menuline x = Scene.agent(does);
            due.is("agent", x.agent(0), does);
            for (int other = 1; other < 6; other++) {
                due.is("another one", x.agent(other), Menuline.OFF);
            }
        }
        noSuchAgent(34, "Returns what an agent does.", Menuline::agent);
    }

    private void callOf() {
        due.sentence(35, "Returns the call with which an agent is BUSY or CALLING; NONE if none.");
        for (int does = Menuline.OFF; does <= Menuline.WRAPPING; does++) {
            boolean has = does == Menuline.BUSY || does == Menuline.CALLING;
            due.is("of one that does " + does, Scene.agent(does).callOf(0), has ? 0 : NONE);
        }
        Menuline x = allBusy();
        for (int agent = 0; agent < 6; agent++) {
            due.is("of each of them", x.callOf(agent), agent);
        }
        Menuline y = Scene.calls(59);
        y.signOn(5, 1);
        y.call(Scene.QUEUE);
        due.is("the last call", y.callOf(5), 59);
        Menuline z = Scene.with(Menuline.RINGING);
        z.pass(6);
        due.is("not picked up", z.callOf(0), NONE);
        noSuchAgent(35, "Returns the call with which an agent is BUSY or CALLING", Menuline::callOf);
    }
}
