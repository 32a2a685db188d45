/** Promises 1 to 12: what is told of nodes, and what is refused. */
public final class TellingTest {
    private static final int NONE = Menuline.NONE;
    private final Due due = new Due("TellingTest");

    public static void main(String[] args) {
        TellingTest test = new TellingTest();
        test.newObject();
        test.say();
        test.menu();
        test.key();
        test.mostKeys();
        test.input();
        test.times();
        test.branch();
        test.sub();
        test.back();
        test.queue();
        test.leaving();
        test.callback();
        test.onlyWhileAllAreOver();
        test.laterTellingTakesThePlace();
        test.due.close();
    }

    /** An object with a call that is not over, and a queue of its own at node 29. */
    private static Menuline busy() {
        Menuline x = new Menuline();
        x.menu(27);
        x.queue(28, 0, 0, 500, 1, NONE);
        x.say(29, 60, NONE);
        x.call(29);
        return x;
    }

    private static String at(String call, Object... numbers) {
        StringBuilder text = new StringBuilder(call);
        for (Object number : numbers) {
            text.append(' ').append(number);
        }
        return text.toString();
    }

    private void newObject() {
        Menuline x = new Menuline();
        due.is("calls", x.calls(), 0);
        due.is("isOpen", x.isOpen(), false);
        for (int i = 0; i < 6; i++) {
            due.is("agent " + i, x.agent(i), Menuline.OFF);
            due.is("callOf " + i, x.callOf(i), NONE);
            due.is("waiting " + i, x.waiting(i), 0);
            due.is("wrap " + i, x.wrap(i, 5), 5);
        }
        for (int node = 0; node < 30; node++) {
            due.is("begun " + node, x.begun(node), 0);
            due.is("call " + node, x.call(node), node);
            due.is("state " + node, x.state(node), Menuline.OVER);
            due.is("end " + node, x.end(node), Menuline.ENDED);
            due.is("begun " + node, x.begun(node), 1);
            for (int to = NONE; to < 30; to++) {
                due.is(at("ways", node, to), x.ways(node, to), to == NONE ? 1 : 0);
            }
        }
        Menuline y = new Menuline();
        due.is("pass on a new object", y.pass(1), 1);
    }

    private void say() {
        Menuline x = new Menuline();
        for (int ticks : new int[] {1, 2, 60}) {
            x.say(0, ticks, 29);
            int call = x.call(0);
            if (ticks > 1) {
                x.pass(ticks - 1);
            }
            due.is(at("nodeOf ahead of", ticks), x.nodeOf(call), 0);
            due.is(at("state ahead of", ticks), x.state(call), Menuline.IN_FLOW);
            x.pass(1);
            due.is(at("state behind", ticks), x.state(call), Menuline.OVER);
        }
        due.is("ways 0 29", x.ways(0, 29), 3);
        x.say(0, 1, NONE);
        due.refused("say -1", x, Due.INDEX, () -> x.say(-1, 0, 0));
        due.refused("say 30", x, Due.INDEX, () -> x.say(30, 0, 0));
        due.refused("say to -2", x, Due.INDEX, () -> x.say(0, 0, -2));
        due.refused("say to 30", x, Due.INDEX, () -> x.say(0, 61, 30));
        due.refused("say 0 ticks", x, Due.ARGUMENT, () -> x.say(0, 0, 0));
        due.refused("say 61 ticks", x, Due.ARGUMENT, () -> x.say(0, 61, 0));
        Menuline y = busy();
        due.refused("say, busy and no node", y, Due.INDEX, () -> y.say(30, 0, 0));
        due.refused("say, busy and out of range", y, Due.ARGUMENT, () -> y.say(0, 0, 0));
        due.refused("say, busy", y, Due.STATE, () -> y.say(0, 1, 0));
    }

    private void menu() {
        Menuline x = new Menuline();
        x.menu(0);
        x.key(0, 15, 3);
        x.menu(0);
        int call = x.call(0);
        due.is("press 5 in a menu without keys", x.press(call, 5), 0);
        due.is("press 5 once more", x.press(call, 5), NONE);
        due.is("ways 0 3", x.ways(0, 3), 0);
        due.refused("menu -1", x, Due.INDEX, () -> x.menu(-1));
        due.refused("menu 30", x, Due.INDEX, () -> x.menu(30));
        Menuline y = busy();
        due.refused("menu, busy and no node", y, Due.INDEX, () -> y.menu(30));
        due.refused("menu, busy", y, Due.STATE, () -> y.menu(0));
    }

    private void key() {
        Menuline x = new Menuline();
        x.menu(4);
        due.is("key 10", x.key(4, 10, 1), 1);
        due.is("key 19", x.key(4, 19, 2), 2);
        due.is("key 100", x.key(4, 100, 3), 3);
        due.is("key 199", x.key(4, 199, 29), 4);
        due.is("key 1000", x.key(4, 1000, 0), 5);
        due.is("key 1999", x.key(4, 1999, NONE), 6);
        due.is("key 19 again", x.key(4, 19, 5), 6);
        for (int key : new int[] {Integer.MIN_VALUE, -10, -1, 0, 1, 9, 20, 99, 200, 999, 2000, 10000, 19999,
            Integer.MAX_VALUE}) {
            due.refused("key " + key, x, Due.ARGUMENT, () -> x.key(4, key, 0));
        }
        due.refused("key of -1", x, Due.INDEX, () -> x.key(-1, 0, 0));
        due.refused("key of 30", x, Due.INDEX, () -> x.key(30, 0, 0));
        due.refused("key to -2", x, Due.INDEX, () -> x.key(4, 0, -2));
        due.refused("key to 30", x, Due.INDEX, () -> x.key(4, 0, 30));
        due.refused("key of no menu", x, Due.STATE, () -> x.key(5, 10, 0));
        due.refused("key of no menu, out of range", x, Due.ARGUMENT, () -> x.key(5, 9, 0));
        x.input(5, 1, 1, NONE);
        due.refused("key of an input", x, Due.STATE, () -> x.key(5, 10, 0));
        due.is("key 12 behind all that", x.key(4, 12, 0), 7);
        Menuline y = busy();
        due.refused("key, busy and no node", y, Due.INDEX, () -> y.key(27, 9, 30));
        due.refused("key, busy and out of range", y, Due.ARGUMENT, () -> y.key(27, 9, 0));
        due.refused("key, busy", y, Due.STATE, () -> y.key(27, 10, 0));
        y.hang(0);
        due.is("key, not busy any more", y.key(27, 10, 0), 1);
    }

    private void mostKeys() {
        Menuline x = new Menuline();
        x.menu(0);
        for (int i = 0; i < 10; i++) {
            due.is("key " + (1500 + i), x.key(0, 1500 + i, i + 1), i + 1);
        }
        due.refused("an eleventh key", x, Due.STATE, () -> x.key(0, 10, 1));
        due.refused("an eleventh key, out of range", x, Due.ARGUMENT, () -> x.key(0, 20, 1));
        due.is("the tenth anew", x.key(0, 1509, 20), 10);
        due.is("the first anew", x.key(0, 1500, 21), 10);
        Due.pressAll(x, x.call(0), "509");
        Due.pressAll(x, x.call(0), "500");
        Due.pressAll(x, x.call(0), "504");
        due.is("ways 0 20", x.ways(0, 20), 1);
        due.is("ways 0 21", x.ways(0, 21), 1);
        due.is("ways 0 5", x.ways(0, 5), 1);
        due.is("ways 0 1", x.ways(0, 1), 0);
        x.menu(0);
        due.is("a first key anew", x.key(0, 10, 1), 1);
    }

    private void input() {
        Menuline x = new Menuline();
        x.input(0, 1, 1, 29);
        x.input(1, 6, 6, NONE);
        x.input(2, 1, 6, 0);
        x.say(29, 60, NONE);
        due.is("press 7", x.press(x.call(0), 7), 29);
        due.is("numberOf", x.numberOf(0), 7);
        x.hang(0);
        int call = x.call(1);
        Due.pressAll(x, call, "99999");
        due.is("ahead of the sixth digit", x.nodeOf(call), 1);
        due.is("numberOf ahead of it", x.numberOf(call), 0);
        due.is("the sixth digit", x.press(call, 9), NONE);
        due.is("numberOf behind it", x.numberOf(call), 999999);
        due.refused("input -1", x, Due.INDEX, () -> x.input(-1, 0, 0, 0));
        due.refused("input 30", x, Due.INDEX, () -> x.input(30, 0, 0, 0));
        due.refused("input to -2", x, Due.INDEX, () -> x.input(0, 0, 0, -2));
        due.refused("input to 30", x, Due.INDEX, () -> x.input(0, 0, 0, 30));
        due.refused("input 0 1", x, Due.ARGUMENT, () -> x.input(0, 0, 1, 0));
        due.refused("input 7 7", x, Due.ARGUMENT, () -> x.input(0, 7, 7, 0));
        due.refused("input 3 2", x, Due.ARGUMENT, () -> x.input(0, 3, 2, 0));
        due.refused("input 3 7", x, Due.ARGUMENT, () -> x.input(0, 3, 7, 0));
        Menuline y = busy();
        due.refused("input, busy and no node", y, Due.INDEX, () -> y.input(0, 0, 0, 30));
        due.refused("input, busy and out of range", y, Due.ARGUMENT, () -> y.input(0, 2, 1, 0));
        due.refused("input, busy", y, Due.STATE, () -> y.input(0, 1, 1, 0));
    }

    private void times() {
        Menuline x = new Menuline();
        x.menu(0);
        x.input(1, 1, 2, NONE);
        x.times(0, 1, 1, 1, 29);
        x.times(0, 60, 20, 5, NONE);
        x.times(1, 60, 20, 5, 29);
        for (int node : new int[] {0, 1}) {
            due.refused("wait 0", x, Due.ARGUMENT, () -> x.times(node, 0, 1, 1, 0));
            due.refused("wait 61", x, Due.ARGUMENT, () -> x.times(node, 61, 1, 1, 0));
            due.refused("gap 0", x, Due.ARGUMENT, () -> x.times(node, 1, 0, 1, 0));
            due.refused("gap 21", x, Due.ARGUMENT, () -> x.times(node, 1, 21, 1, 0));
            due.refused("tries 0", x, Due.ARGUMENT, () -> x.times(node, 1, 1, 0, 0));
            due.refused("tries 6", x, Due.ARGUMENT, () -> x.times(node, 1, 1, 6, 0));
            due.refused("failing -2", x, Due.INDEX, () -> x.times(node, 0, 1, 1, -2));
            due.refused("failing 30", x, Due.INDEX, () -> x.times(node, 0, 1, 1, 30));
        }
        due.refused("times -1", x, Due.INDEX, () -> x.times(-1, 0, 1, 1, 0));
        due.refused("times 30", x, Due.INDEX, () -> x.times(30, 0, 1, 1, 0));
        x.say(2, 1, NONE);
        x.queue(3, 0, 0, 1, 1, NONE);
        x.branch(4, 0, 0, 0, NONE, NONE);
        x.sub(5, 0, 0);
        x.back(6);
        x.callback(7);
        for (int node = 2; node <= 8; node++) {
            int other = node;
            due.refused("times of another node", x, Due.STATE, () -> x.times(other, 1, 1, 1, 0));
            due.refused("times of another node, out of range", x, Due.ARGUMENT, () -> x.times(other, 0, 1, 1, 0));
        }
        Menuline y = busy();
        due.refused("times, busy and no node", y, Due.INDEX, () -> y.times(27, 0, 1, 1, 30));
        due.refused("times, busy and out of range", y, Due.ARGUMENT, () -> y.times(27, 0, 1, 1, 0));
        due.refused("times, busy", y, Due.STATE, () -> y.times(27, 1, 1, 1, 0));
    }

    private void branch() {
        Menuline x = new Menuline();
        int[] most = {999999, 999999, 5, 6, 5};
        for (int what = 0; what < 5; what++) {
            int asked = what;
            x.branch(0, what, 0, 0, 29, NONE);
            x.branch(0, what, most[what], 60, NONE, 29);
            due.refused(at("a -1 for", what), x, Due.ARGUMENT, () -> x.branch(0, asked, -1, 0, 0, 0));
            due.refused(at("a above for", what), x, Due.ARGUMENT, () -> x.branch(0, asked, most[asked] + 1, 0, 0, 0));
            due.refused(at("b -1 for", what), x, Due.ARGUMENT, () -> x.branch(0, asked, 0, -1, 0, 0));
            due.refused(at("b 61 for", what), x, Due.ARGUMENT, () -> x.branch(0, asked, 0, 61, 0, 0));
        }
        due.refused("what -1", x, Due.ARGUMENT, () -> x.branch(0, -1, 0, 0, 0, 0));
        due.refused("what 5", x, Due.ARGUMENT, () -> x.branch(0, 5, 0, 0, 0, 0));
        due.refused("branch -1", x, Due.INDEX, () -> x.branch(-1, 5, 0, 0, 0, 0));
        due.refused("branch 30", x, Due.INDEX, () -> x.branch(30, 5, 0, 0, 0, 0));
        due.refused("yes -2", x, Due.INDEX, () -> x.branch(0, 5, 0, 0, -2, 0));
        due.refused("yes 30", x, Due.INDEX, () -> x.branch(0, 5, 0, 0, 30, 0));
        due.refused("no -2", x, Due.INDEX, () -> x.branch(0, 5, 0, 0, 0, -2));
        due.refused("no 30", x, Due.INDEX, () -> x.branch(0, 5, 0, 0, 0, 30));
        Menuline y = busy();
        due.refused("branch, busy and no node", y, Due.INDEX, () -> y.branch(0, 5, 0, 0, 0, 30));
        due.refused("branch, busy and out of range", y, Due.ARGUMENT, () -> y.branch(0, 0, 0, 61, 0, 0));
        due.refused("branch, busy", y, Due.STATE, () -> y.branch(0, 0, 0, 0, 0, 0));
    }

    private void sub() {
        Menuline x = new Menuline();
        x.sub(0, NONE, 29);
        due.is("a sub to NONE ends", x.end(x.call(0)), Menuline.ENDED);
        due.is("its way", x.ways(0, NONE), 1);
        x.sub(0, 1, NONE);
        x.back(1);
        due.is("back to NONE ends", x.end(x.call(0)), Menuline.ENDED);
        due.is("its way", x.ways(1, NONE), 1);
        due.refused("sub -1", x, Due.INDEX, () -> x.sub(-1, 0, 0));
        due.refused("sub 30", x, Due.INDEX, () -> x.sub(30, 0, 0));
        due.refused("sub to -2", x, Due.INDEX, () -> x.sub(0, -2, 0));
        due.refused("sub to 30", x, Due.INDEX, () -> x.sub(0, 30, 0));
        due.refused("sub back -2", x, Due.INDEX, () -> x.sub(0, 0, -2));
        due.refused("sub back 30", x, Due.INDEX, () -> x.sub(0, 0, 30));
        Menuline y = busy();
        due.refused("sub, busy and no node", y, Due.INDEX, () -> y.sub(0, 0, 30));
        due.refused("sub, busy", y, Due.STATE, () -> y.sub(0, 0, 0));
    }

    private void back() {
        Menuline x = new Menuline();
        x.back(0);
        due.is("back without a sub ends", x.end(x.call(0)), Menuline.ENDED);
        due.is("its way", x.ways(0, NONE), 1);
        due.refused("back -1", x, Due.INDEX, () -> x.back(-1));
        due.refused("back 30", x, Due.INDEX, () -> x.back(30));
        Menuline y = busy();
        due.refused("back, busy and no node", y, Due.INDEX, () -> y.back(30));
        due.refused("back, busy", y, Due.STATE, () -> y.back(0));
    }

    private void queue() {
        Menuline x = new Menuline();
        x.queue(0, 5, 9, 500, 30, 29);
        x.queue(0, 0, 0, 1, 1, NONE);
        due.refused("queue -1", x, Due.INDEX, () -> x.queue(-1, 6, 0, 1, 1, 0));
        due.refused("queue 30", x, Due.INDEX, () -> x.queue(30, 6, 0, 1, 1, 0));
        due.refused("overflow -2", x, Due.INDEX, () -> x.queue(0, 6, 0, 1, 1, -2));
        due.refused("overflow 30", x, Due.INDEX, () -> x.queue(0, 6, 0, 1, 1, 30));
        due.refused("skill -1", x, Due.ARGUMENT, () -> x.queue(0, -1, 0, 1, 1, 0));
        due.refused("skill 6", x, Due.ARGUMENT, () -> x.queue(0, 6, 0, 1, 1, 0));
        due.refused("priority -1", x, Due.ARGUMENT, () -> x.queue(0, 0, -1, 1, 1, 0));
        due.refused("priority 10", x, Due.ARGUMENT, () -> x.queue(0, 0, 10, 1, 1, 0));
        due.refused("most 0", x, Due.ARGUMENT, () -> x.queue(0, 0, 0, 0, 1, 0));
        due.refused("most 501", x, Due.ARGUMENT, () -> x.queue(0, 0, 0, 501, 1, 0));
        due.refused("cap 0", x, Due.ARGUMENT, () -> x.queue(0, 0, 0, 1, 0, 0));
        due.refused("cap 31", x, Due.ARGUMENT, () -> x.queue(0, 0, 0, 1, 31, 0));
        Menuline y = busy();
        due.refused("queue, busy and no node", y, Due.INDEX, () -> y.queue(0, 6, 0, 1, 1, 30));
        due.refused("queue, busy and out of range", y, Due.ARGUMENT, () -> y.queue(0, 0, 0, 1, 0, 0));
        due.refused("queue, busy", y, Due.STATE, () -> y.queue(0, 0, 0, 1, 1, 0));
    }

    private void leaving() {
        Menuline x = new Menuline();
        x.queue(0, 0, 0, 500, 30, NONE);
        int call = x.call(0);
        due.is("1 without a node for leaving", x.press(call, 1), 0);
        x.hang(call);
        x.leaving(0, 5);
        x.say(5, 60, NONE);
        call = x.call(0);
        for (int key : new int[] {0, 2, 3, 9, 10, 11}) {
            due.is("what does not matter: " + key, x.press(call, key), 0);
            due.is("it waits", x.state(call), Menuline.WAITING);
        }
        due.is("1 with a node for leaving", x.press(call, 1), 5);
        due.is("it waits no more", x.state(call), Menuline.IN_FLOW);
        due.is("nobody waits", x.waiting(0), 0);
        due.is("its way", x.ways(0, 5), 1);
        x.hang(call);
        x.leaving(0, NONE);
        call = x.call(0);
        due.is("1 with NONE for leaving", x.press(call, 1), NONE);
        due.is("it is over", x.end(call), Menuline.ENDED);
        due.is("its way", x.ways(0, NONE), 1);
        x.queue(0, 0, 0, 500, 30, NONE);
        call = x.call(0);
        due.is("1 in a queue that is told anew", x.press(call, 1), 0);
        x.hang(call);
        due.refused("leaving -1", x, Due.INDEX, () -> x.leaving(-1, 0));
        due.refused("leaving 30", x, Due.INDEX, () -> x.leaving(30, 0));
        due.refused("leaving to -2", x, Due.INDEX, () -> x.leaving(0, -2));
        due.refused("leaving to 30", x, Due.INDEX, () -> x.leaving(0, 30));
        x.menu(1);
        due.refused("leaving of a menu", x, Due.STATE, () -> x.leaving(1, 0));
        due.refused("leaving of no menu to 30", x, Due.INDEX, () -> x.leaving(1, 30));
        due.refused("leaving of nothing", x, Due.STATE, () -> x.leaving(2, 0));
        Menuline y = busy();
        due.refused("leaving, busy and no node", y, Due.INDEX, () -> y.leaving(28, 30));
        due.refused("leaving, busy", y, Due.STATE, () -> y.leaving(28, 0));
    }

    private void callback() {
        Menuline x = new Menuline();
        x.callback(0);
        int call = x.call(0);
        due.is("a callback without a claim", x.end(call), Menuline.ENDED);
        due.is("it goes nowhere", x.ways(0, NONE), 0);
        due.refused("callback -1", x, Due.INDEX, () -> x.callback(-1));
        due.refused("callback 30", x, Due.INDEX, () -> x.callback(30));
        Menuline y = busy();
        due.refused("callback, busy and no node", y, Due.INDEX, () -> y.callback(30));
        due.refused("callback, busy", y, Due.STATE, () -> y.callback(0));
    }

    private void onlyWhileAllAreOver() {
        Menuline x = new Menuline();
        x.queue(0, 0, 0, 5, 30, 1);
        x.callback(1);
        x.call(0);
        due.refused("back while one is WAITING", x, Due.STATE, () -> x.back(3));
        x.pass(5);
        due.is("it is AWAY", x.state(0), Menuline.AWAY);
        due.refused("back while one is AWAY", x, Due.STATE, () -> x.back(3));
        x.signOn(0, 1);
        due.is("it is RINGING", x.state(0), Menuline.RINGING);
        due.refused("back while one is RINGING", x, Due.STATE, () -> x.back(3));
        x.pick(0);
        due.refused("back while one is TALKING", x, Due.STATE, () -> x.back(3));
        x.call(2);
        due.refused("back while one of two is over", x, Due.STATE, () -> x.back(3));
        x.finish(0);
        x.back(3);
        due.is("agents do not matter", x.agent(0), Menuline.WRAPPING);
    }

    private void laterTellingTakesThePlace() {
        Menuline x = new Menuline();
        x.menu(0);
        x.times(0, 1, 1, 1, 7);
        x.menu(0);
        int call = x.call(0);
        x.pass(9);
        due.is("the wait is 10 again", x.nodeOf(call), 0);
        x.pass(10);
        due.is("the tries are 2 again", x.nodeOf(call), 0);
        x.pass(1);
        due.is("it fails to NONE again", x.ways(0, NONE), 1);
        x.key(0, 112, 3);
        call = x.call(0);
        x.press(call, 1);
        x.pass(2);
        x.press(call, 2);
        due.is("the gap is 3 again", x.ways(0, 3), 1);
        x.times(0, 1, 1, 1, 7);
        due.is("times leave the keys", x.key(0, 13, 1), 2);
        x.input(0, 1, 2, 5);
        due.refused("key of what was a menu", x, Due.STATE, () -> x.key(0, 11, 1));
        call = x.call(0);
        x.pass(9);
        due.is("the wait of an input is 10", x.nodeOf(call), 0);
        x.hang(call);
        x.menu(0);
        due.is("the keys are gone", x.key(0, 11, 1), 1);
    }
}
