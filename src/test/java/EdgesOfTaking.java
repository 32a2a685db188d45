/** The terms of calls and agents, sentence by sentence: who waits, who is ahead, who takes whom, and when. */
final class EdgesOfTaking {
    private static final int NONE = Menuline.NONE;
    private final Due due;

    EdgesOfTaking(Due due) {
        this.due = due;
    }

    void run() {
        whoWaits();
        score();
        equalScores();
        takes();
        ringsForSix();
        thirtyTicks();
        notPickedUpTwice();
        pickedUp();
        countsFromTheCallback();
        wrapsUp();
        readyAtOnce();
        whoTakes();
        whatIsTaken();
        longestReady();
        asLongAsSome();
        wheneverSomethingChanged();
        tickByTick();
        callsByRisingNumbers();
    }

    /** A queue for the skill 0 at the node 10 + p with the priority p; the digit 1 leads to the callback. */
    private static Menuline priorities() {
        Menuline x = Scene.quiet();
        for (int priority = 0; priority <= 9; priority++) {
            x.queue(10 + priority, 0, priority, 500, 30, Scene.CALLBACK);
            x.leaving(10 + priority, Scene.CALLBACK);
        }
        return x;
    }

    /** A queue for the skill s at the node 10 + s. */
    private static Menuline skills() {
        Menuline x = Scene.quiet();
        for (int skill = 0; skill < 6; skill++) {
            x.queue(10 + skill, skill, 0, 500, 30, NONE);
        }
        return x;
    }

    // ---- who waits, and who is ahead

    private void whoWaits() {
        due.sentence(0, "A call waits if it is WAITING in a QUEUE, or AWAY.");
        for (int state = Menuline.IN_FLOW; state <= Menuline.OVER; state++) {
            Menuline x = Scene.with(state);
            boolean waits = state == Menuline.WAITING || state == Menuline.AWAY;
            due.is("waiting", x.waiting(0), waits ? 1 : 0);
            due.is("placeOf", x.placeOf(0), waits ? 0 : NONE);
            due.is("placeByReplay", x.placeByReplay(0), waits ? 0 : NONE);
        }
        Menuline x = Scene.with(Menuline.RINGING);
        x.pass(6);
        due.is("AWAY again", x.waiting(0), 1);
        x.pass(29);
        due.is("and still", x.waiting(0), 1);
        x.pass(1);
        due.is("RINGING again", x.waiting(0), 0);
    }

    private void score() {
        due.sentence(0, "The score of one that waits is (its priority and 1, together) times (its ticks of waiting and 10, "
                + "together)");
        for (int low = 0; low <= 8; low++) {
            for (int high = low + 1; high <= 9; high++) {
                for (int ticks : new int[] {0, 1, 9, 10, 37, 90}) {
                    int alone = (high + 1) * 10 / (low + 1) - 10;
                    scoresOf(low, high, alone, ticks);
                    scoresOf(low, high, alone + 1, ticks);
                }
            }
        }
    }

    /** The lower priority waits for some ticks alone, and then for more beside the higher one. */
    private void scoresOf(int low, int high, int alone, int beside) {
        Menuline x = priorities();
        x.call(10 + low);
        Due.passTo(x, 0, alone);
        x.call(10 + high);
        Due.passTo(x, 0, beside);
        int first = (low + 1) * (alone + beside + 10);
        int second = (high + 1) * (beside + 10);
        due.is(first + " and " + second, x.placeOf(0), second > first ? 1 : 0);
        due.is(first + " and " + second + " by replay", x.placeByReplay(0), second > first ? 1 : 0);
        due.is(first + " and " + second + ", the other one", x.placeOf(1), second > first ? 0 : 1);
        due.is(first + " and " + second + ", taken", x.signOn(0, 1), second > first ? 1 : 0);
    }

    private void equalScores() {
        due.sentence(0, "one is ahead of another one if its score is greater, of several with the same score the lower number.");
        Menuline x = priorities();
        x.call(10);
        x.pass(5);
        x.call(12);
        x.pass(5);
        x.call(11);
        x.call(13);
        int[] scores = {20, 45, 20, 40};
        int[] places = {2, 0, 3, 1};
        for (int call = 0; call < 4; call++) {
            due.is("of the score " + scores[call], x.placeOf(call), places[call]);
            due.is("by replay", x.placeByReplay(call), places[call]);
        }
        for (int place = 0; place < 4; place++) {
            int taken = x.signOn(place, 1);
            due.is("in their order", places[taken], place);
        }
        Menuline y = priorities();
        for (int call = 0; call < 30; call++) {
            y.call(19);
        }
        for (int call = 0; call < 30; call++) {
            due.is("thirty of the same score", y.placeOf(call), call);
        }
    }

    // ---- taking and ringing

    private void takes() {
        due.sentence(0, "An agent who is READY takes a call that waits for a skill which the agent has: one that is WAITING is "
                + "TALKING with the agent then, and has no claim any more; one that is AWAY is RINGING, for 6 ticks.");
        for (int has = 0; has < 6; has++) {
            for (int skill = 0; skill < 6; skill++) {
                Menuline x = skills();
                x.signOn(0, 1 << has);
                x.call(10 + skill);
                due.is("the skill " + has + " for " + skill, x.state(0), has == skill ? Menuline.TALKING : Menuline.WAITING);
                due.is("the agent", x.agent(0), has == skill ? Menuline.BUSY : Menuline.READY);
            }
        }
        Menuline x = Scene.with(Menuline.TALKING);
        x.transfer(0, Scene.CALLBACK);
        due.is("no claim any more", x.end(0), Menuline.ENDED);
        Menuline y = Scene.with(Menuline.RINGING);
        due.is("AWAY is RINGING", y.state(0), Menuline.RINGING);
        due.is("and CALLING", y.agent(0), Menuline.CALLING);
        due.is("at no node", y.nodeOf(0), NONE);
    }

    private void ringsForSix() {
        due.sentence(0, "one that is AWAY is RINGING, for 6 ticks.");
        Menuline x = Scene.with(Menuline.RINGING);
        for (int tick = 0; tick < 6; tick++) {
            due.is("behind " + tick, x.state(0), Menuline.RINGING);
            due.is("the agent", x.agent(0), Menuline.CALLING);
            x.pass(1);
        }
        due.is("behind 6", x.state(0), Menuline.AWAY);
        due.is("the agent", x.agent(0), Menuline.READY);
        Menuline y = Scene.with(Menuline.AWAY);
        y.pass(50);
        y.signOn(0, 1);
        y.pass(5);
        due.is("from the taking on", y.state(0), Menuline.RINGING);
        y.pass(1);
        due.is("6 ticks later", y.state(0), Menuline.AWAY);
    }

    private void thirtyTicks() {
        due.sentence(0, "If it is picked up, it is TALKING; if not, it is AWAY again, with its claim, but cannot be taken ahead of "
                + "30 ticks later; when it was not picked up twice, since it came to the CALLBACK, it is over, as LOST.");
        Menuline x = Scene.with(Menuline.RINGING);
        x.call(12);
        x.pass(6);
        int other = x.call(Scene.QUEUE);
        due.is("it can't be taken, though it is ahead", x.callOf(0), other);
        x.hang(other);
        x.call(Scene.QUEUE);
        due.is("with its claim", x.placeOf(0), 0);
        due.is("ahead of a later one", x.placeOf(3), 1);
        x.hang(3);
        for (int tick = 7; tick < 36; tick++) {
            x.pass(1);
            due.is("at " + tick, x.state(0), Menuline.AWAY);
            due.is("it waits", x.waiting(0), 1);
        }
        x.pass(1);
        due.is("30 ticks later", x.state(0), Menuline.RINGING);
        Menuline y = Scene.with(Menuline.RINGING);
        y.pass(6);
        y.signOff(0);
        y.pass(29);
        due.is("29 ticks later nobody takes it", y.signOn(1, 1), NONE);
        y.signOff(1);
        y.pass(1);
        due.is("30 ticks later one does", y.signOn(1, 1), 0);
    }

    private void notPickedUpTwice() {
        due.sentence(0, "when it was not picked up twice, since it came to the CALLBACK, it is over, as LOST.");
        Menuline x = Scene.with(Menuline.RINGING);
        x.pass(36);
        x.pass(5);
        due.is("it rings for the second time", x.state(0), Menuline.RINGING);
        due.is("not yet", x.end(0), NONE);
        x.pass(1);
        due.is("over", x.state(0), Menuline.OVER);
        due.is("as", x.end(0), Menuline.LOST);
        due.is("it waits no more", x.waiting(0), 0);
        due.is("no place", x.placeOf(0), NONE);
        due.is("no place by replay", x.placeByReplay(0), NONE);
        due.is("the agent is READY", x.agent(0), Menuline.READY);
        due.is("without a call", x.callOf(0), NONE);
        due.is("that is no way", x.ways(Scene.CALLBACK, NONE), 0);
        Menuline y = Scene.with(Menuline.RINGING);
        y.pass(6);
        y.signOff(0);
        y.pass(50);
        y.signOn(1, 1);
        y.pass(6);
        due.is("by two agents", y.end(0), Menuline.LOST);
    }

    private void pickedUp() {
        due.sentence(0, "If it is picked up, it is TALKING");
        for (int ring = 0; ring <= 1; ring++) {
            Menuline x = Scene.with(Menuline.RINGING);
            Due.passTo(x, 0, ring * 36 + 5);
            x.pick(0);
            due.is("at the last tick", x.state(0), Menuline.TALKING);
            due.is("the agent", x.agent(0), Menuline.BUSY);
            x.pass(60);
            due.is("and on", x.state(0), Menuline.TALKING);
            x.finish(0);
            due.is("the agent wraps up behind it", x.agent(0), Menuline.WRAPPING);
        }
    }

    private void countsFromTheCallback() {
        due.sentence(0, "since it came to the CALLBACK");
        Menuline x = Scene.with(Menuline.RINGING);
        x.pass(36);
        x.pick(0);
        x.transfer(0, Scene.QUEUE);
        x.press(0, 1);
        due.is("it came once more", x.state(0), Menuline.AWAY);
        x.pass(5);
        due.is("and rings", x.state(0), Menuline.RINGING);
        x.pass(6);
        due.is("once", x.state(0), Menuline.AWAY);
        x.pass(35);
        due.is("not yet twice", x.state(0), Menuline.RINGING);
        x.pass(1);
        due.is("twice", x.end(0), Menuline.LOST);
    }

    // ---- agents are READY

    private void wrapsUp() {
        due.sentence(0, "When a talk has ended, the agent wraps up for some ticks, 5 at first, and is READY then (at once with 0)");
        for (int how = 0; how < 3; how++) {
            for (int wrap : new int[] {-1, 0, 1, 30}) {
                Menuline x = Scene.with(Menuline.TALKING);
                int ticks = wrap < 0 ? 5 : wrap;
                if (wrap >= 0) {
                    x.wrap(0, wrap);
                }
                endTalk(x, how);
                for (int tick = 0; tick < ticks; tick++) {
                    due.is("ended by " + how + ", behind " + tick, x.agent(0), Menuline.WRAPPING);
                    due.is("without a call", x.callOf(0), NONE);
                    x.pass(1);
                }
                due.is("ended by " + how + ", READY", x.agent(0), Menuline.READY);
            }
        }
        Menuline x = Scene.with(Menuline.TALKING);
        x.call(Scene.QUEUE);
        x.finish(0);
        x.pass(4);
        due.is("who wraps up takes nothing", x.state(1), Menuline.WAITING);
        x.pass(1);
        due.is("who is READY does", x.callOf(0), 1);
        x.wrap(0, 0);
        x.call(Scene.QUEUE);
        x.finish(0);
        due.is("at once with 0", x.callOf(0), 2);
    }

    private static void endTalk(Menuline x, int how) {
        if (how == 0) {
            x.finish(0);
        } else if (how == 1) {
            x.hang(0);
        } else {
            x.transfer(0, Scene.SAY);
        }
    }

    private void readyAtOnce() {
        due.sentence(0, "when a call is not picked up, or hung up while it rings, the agent is READY at once.");
        for (int wrap : new int[] {0, 5, 30}) {
            Menuline x = Scene.with(Menuline.RINGING);
            x.wrap(0, wrap);
            x.pass(6);
            due.is("not picked up", x.agent(0), Menuline.READY);
            x.pass(36);
            due.is("nor twice", x.agent(0), Menuline.READY);
            Menuline y = Scene.with(Menuline.RINGING);
            y.wrap(0, wrap);
            y.call(Scene.QUEUE);
            y.hang(0);
            due.is("hung up, and takes the next one", y.callOf(0), 1);
        }
        Menuline z = Scene.with(Menuline.RINGING);
        z.call(Scene.QUEUE);
        z.pass(5);
        due.is("CALLING", z.callOf(0), 0);
        z.pass(1);
        due.is("takes another one in the same tick", z.callOf(0), 1);
        longestSinceThen();
    }

    private void longestSinceThen() {
        Menuline x = Scene.with(Menuline.RINGING);
        x.pass(3);
        x.signOn(1, 1);
        x.pass(3);
        x.call(Scene.QUEUE);
        due.is("READY since it was not picked up", x.callOf(1), 1);
        x.call(Scene.QUEUE);
        due.is("the other one is READY, too", x.callOf(0), 2);
    }

    // ---- who takes whom

    private static final String TAKING = "Whenever something has changed, and behind each tick: as long as some agent who is READY "
            + "can take some call, of these agents, the one who is READY for the longest time, of several the lowest, takes, of "
            + "the calls for a skill of this agent that can be taken, the one that is ahead of all others.";

    private void whoTakes() {
        due.sentence(0, TAKING);
        Menuline x = skills();
        int[] order = {4, 2, 5, 0, 3, 1};
        for (int agent : order) {
            x.signOn(agent, 63);
            x.pass(1);
        }
        for (int call = 0; call < 6; call++) {
            x.call(10 + call);
            due.is("the longest of all", x.callOf(order[call]), call);
        }
        due.is("none is left", x.state(x.call(10)), Menuline.WAITING);
        Menuline y = skills();
        for (int agent : order) {
            y.signOn(agent, 63);
        }
        for (int call = 0; call < 6; call++) {
            y.call(10 + call);
            due.is("of several the lowest", y.callOf(call), call);
        }
        Menuline z = skills();
        z.signOn(0, 1);
        z.pass(1);
        z.signOn(5, 2);
        z.pass(1);
        z.signOn(3, 2);
        z.call(11);
        due.is("of those who can", z.callOf(5), 0);
        due.is("who can't is READY", z.agent(0), Menuline.READY);
    }

    private void whatIsTaken() {
        due.sentence(0, "takes, of the calls for a skill of this agent that can be taken, the one that is ahead of all others.");
        Menuline x = skills();
        x.queue(20, 5, 3, 500, 30, NONE);
        x.call(10);
        x.pass(1);
        x.call(13);
        x.call(12);
        x.call(20);
        x.call(14);
        due.is("not of the skills 0 and 5", x.signOn(0, 63 - 1 - 32), 1);
        due.is("the greatest score of all", x.signOn(1, 63), 3);
        due.is("the next", x.signOn(2, 63), 0);
        due.is("of two with the same score the lower", x.signOn(3, 63), 2);
        due.is("the last", x.signOn(4, 63), 4);
        due.is("none is left", x.signOn(5, 63), NONE);
    }

    private void longestReady() {
        due.sentence(0, "the one who is READY for the longest time, of several the lowest");
        Menuline x = skills();
        for (int agent = 0; agent < 3; agent++) {
            x.signOn(agent, 63);
            x.call(10);
        }
        x.wrap(0, 6);
        x.finish(0);
        x.pass(1);
        x.wrap(2, 4);
        x.finish(2);
        x.wrap(1, 5);
        x.finish(1);
        x.pass(4);
        due.is("one is READY", x.agent(2), Menuline.READY);
        x.pass(1);
        due.is("three are", x.agent(0) + x.agent(1), 2 * Menuline.READY);
        x.call(10);
        due.is("one tick longer", x.callOf(2), 3);
        x.call(10);
        due.is("at the same tick, the lower", x.callOf(0), 4);
        x.call(10);
        due.is("the last", x.callOf(1), 5);
    }

    private void asLongAsSome() {
        due.sentence(0, "as long as some agent who is READY can take some call");
        Menuline x = skills();
        for (int agent = 0; agent < 6; agent++) {
            x.signOn(agent, 1 << agent);
            x.call(10 + agent);
        }
        for (int call = 6; call < 18; call++) {
            x.call(10 + (23 - call) % 6);
        }
        for (int agent = 0; agent < 6; agent++) {
            x.finish(agent);
        }
        x.pass(4);
        due.is("twelve wait", x.waiting(0) + x.waiting(1) + x.waiting(2) + x.waiting(3) + x.waiting(4) + x.waiting(5), 12);
        x.pass(1);
        for (int agent = 0; agent < 6; agent++) {
            due.is("all six take in one tick", x.callOf(agent), 6 + 5 - agent);
            due.is("one waits for each skill", x.waiting(agent), 1);
        }
    }

    private void wheneverSomethingChanged() {
        due.sentence(0, "Whenever something has changed");
        Menuline x = Scene.quiet();
        x.signOn(0, 1);
        x.call(Scene.QUEUE);
        due.is("behind call()", x.callOf(0), 0);
        x.wrap(0, 0);
        x.call(Scene.QUEUE);
        x.finish(0);
        due.is("behind finish()", x.callOf(0), 1);
        x.call(Scene.QUEUE);
        x.hang(1);
        due.is("behind hang()", x.callOf(0), 2);
        x.call(Scene.QUEUE);
        x.transfer(0, Scene.SAY);
        due.is("behind transfer()", x.callOf(0), 3);
        x.transfer(0, Scene.QUEUE);
        due.is("transferred to its own queue", x.callOf(0), 3);
        x.call(Scene.QUEUE);
        due.is("behind signOn()", x.signOn(1, 1), 4);
        Menuline y = Scene.quiet();
        y.key(Scene.MENU, 10, Scene.QUEUE);
        y.signOn(0, 1);
        y.call(Scene.MENU);
        due.is("behind press()", y.press(0, 0), NONE);
        due.is("it talks", y.callOf(0), 0);
        y.finish(0);
        y.press(y.call(Scene.QUEUE), 1);
        y.pass(5);
        due.is("behind pass()", y.callOf(0), 1);
    }

    // ---- ticks

    private void tickByTick() {
        due.sentence(0, "When a tick passes, first the time becomes 1 more; then, by rising numbers, each call goes on whose time "
                + "at a node is up, or that was not picked up; then the agents are READY whose wrapping up is over; then calls "
                + "are taken.");
        Menuline x = Scene.quiet();
        x.say(20, 1, 21);
        x.branch(21, Menuline.OPEN, 0, 0, 22, 23);
        x.hours(0, 1, 2);
        x.call(20);
        x.pass(1);
        due.is("first the time", x.ways(21, 22), 1);
        Menuline y = Scene.with(Menuline.TALKING);
        y.finish(0);
        y.say(20, 5, 21);
        y.branch(21, Menuline.FREE, 0, 0, 22, 23);
        y.queue(24, 0, 0, 5, 30, 25);
        y.call(20);
        y.call(24);
        y.pass(5);
        due.is("then calls, ahead of the agents", y.ways(21, 23), 1);
        due.is("and ahead of the taking", y.ways(24, 25), 1);
        due.is("then the agents", y.agent(0), Menuline.READY);
        Menuline z = Scene.with(Menuline.TALKING);
        z.finish(0);
        z.say(20, 5, Scene.QUEUE);
        z.call(20);
        z.pass(5);
        due.is("then calls are taken, one that came in the same tick, too", z.callOf(0), 1);
        Menuline w = Scene.quiet();
        w.say(20, 1, Scene.QUEUE);
        w.queue(21, 0, 0, 500, 1, 22);
        w.say(23, 1, 21);
        w.signOn(0, 1);
        w.call(20);
        w.call(23);
        w.pass(1);
        due.is("not between two calls", w.ways(21, 22), 1);
        due.is("but behind them", w.callOf(0), 0);
    }

    private void callsByRisingNumbers() {
        due.sentence(0, "by rising numbers, each call goes on whose time at a node is up, or that was not picked up");
        for (int ahead = 0; ahead <= 1; ahead++) {
            Menuline x = Scene.quiet();
            x.say(20, 6, 21);
            x.branch(21, Menuline.FREE, 0, 0, 22, 23);
            x.branch(24, Menuline.WAITS, 0, 1, 22, 23);
            x.say(25, 6, 24);
            if (ahead == 0) {
                x.call(20);
                x.call(25);
            }
            x.press(x.call(Scene.QUEUE), 1);
            x.signOn(0, 1);
            if (ahead == 1) {
                x.call(20);
                x.call(25);
            }
            x.pass(6);
            due.is("the agent is READY for the numbers behind, " + ahead, x.ways(21, 22), ahead);
            due.is("the call waits for the numbers behind, " + ahead, x.ways(24, 22), ahead);
        }
        Menuline y = Scene.quiet();
        y.queue(20, 0, 0, 500, 1, 21);
        y.say(22, 9, 20);
        y.say(23, 3, 20);
        y.call(22);
        y.pass(6);
        y.call(23);
        y.pass(3);
        due.is("not by the time of their coming", y.state(0), Menuline.WAITING);
        due.is("the higher number finds it full", y.ways(20, 21), 1);
    }
}
