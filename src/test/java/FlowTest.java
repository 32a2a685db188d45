/** How calls go on through nodes: rows of digits, misses, branches, sub-flows, queues, callbacks, loops. */
public final class FlowTest {
    private static final int NONE = Menuline.NONE;
    private final Due due = new Due("FlowTest");

    public static void main(String[] args) {
        FlowTest test = new FlowTest();
        test.whatSayIsTold();
        test.keysThatBeginOneAnother();
        test.keysOfThreeDigits();
        test.rowsThatAreDone();
        test.misses();
        test.missesCountFromComing();
        test.starIsNoMiss();
        test.keysToNone();
        test.timesOfMenus();
        test.inputs();
        test.inputRows();
        test.branchOpenAndDay();
        test.branchNumber();
        test.branchWaits();
        test.branchFree();
        test.subFlows();
        test.deep();
        test.loopFromOutside();
        test.loopFromAStay();
        test.loopThroughTransfer();
        test.overflowAtOnce();
        test.overflowByTime();
        test.claims();
        test.oneMoment();
        test.due.close();
    }

    private void whatSayIsTold() {
        Menuline x = new Menuline();
        x.say(0, 3, 1);
        x.menu(1);
        x.key(1, 11, 2);
        x.say(2, 60, NONE);
        int call = x.call(0);
        for (int key = 0; key <= 11; key++) {
            due.is("press in a say", x.press(call, key), 0);
        }
        x.pass(2);
        x.press(call, 1);
        x.pass(1);
        due.is("the say is over in its time", x.nodeOf(call), 1);
        x.pass(9);
        due.is("nothing was told to the menu", x.nodeOf(call), 1);
        due.is("now it is", x.press(call, 1), 2);
    }

    private void keysThatBeginOneAnother() {
        Menuline x = new Menuline();
        x.menu(0);
        x.key(0, 11, 1);
        x.key(0, 1123, 2);
        x.key(0, 145, 3);
        x.key(0, 10, 4);
        x.key(0, 167, 5);
        x.key(0, 1678, 6);
        for (int node = 1; node <= 6; node++) {
            x.say(node, 60, NONE);
        }
        int call = x.call(0);
        due.is("0 is a key that begins no other one", x.press(call, 0), 4);
        call = x.call(0);
        due.is("1 begins another one", x.press(call, 1), 0);
        due.is("12 begins another one", x.press(call, 2), 0);
        due.is("123", x.press(call, 3), 2);
        call = x.call(0);
        Due.pressAll(x, call, "12");
        due.is("12 is no key", x.press(call, 11), 0);
        due.is("behind the miss 4 waits", x.press(call, 4), 0);
        due.is("45", x.press(call, 5), 3);
        call = x.call(0);
        due.is("4 begins 45", x.press(call, 4), 0);
        due.is("46 is a miss", x.press(call, 6), 0);
        due.is("behind it 0", x.press(call, 0), 4);
        call = x.call(0);
        Due.pressAll(x, call, "67");
        due.is("67 waits for 678", x.nodeOf(call), 0);
        x.pass(3);
        due.is("and is 67 behind the gap", x.nodeOf(call), 5);
        call = x.call(0);
        Due.pressAll(x, call, "678");
        due.is("678", x.nodeOf(call), 6);
        call = x.call(0);
        Due.pressAll(x, call, "67#");
        due.is("67 with #", x.nodeOf(call), 5);
    }

    private void keysOfThreeDigits() {
        Menuline x = new Menuline();
        x.menu(0);
        x.key(0, 1999, 2);
        x.key(0, 1089, 1);
        int call = x.call(0);
        due.is("0 begins 089", x.press(call, 0), 0);
        due.is("08 begins 089", x.press(call, 8), 0);
        due.is("089", x.press(call, 9), NONE);
        due.is("its way", x.ways(0, 1), 1);
        call = x.call(0);
        x.press(call, 1);
        due.is("1 begins nothing, and that is a miss", x.press(call, 1), NONE);
        due.is("two of them", x.ways(0, NONE), 1);
        Due.pressAll(x, x.call(0), "0999");
        due.is("09 is a miss, behind it 99 waits", x.nodeOf(2), 0);
        due.is("999", x.press(2, 9), NONE);
        due.is("its way", x.ways(0, 2), 1);
        x.menu(0);
        x.key(0, 10, 3);
        x.press(x.call(0), 0);
        due.is("089 is no key any more", x.ways(0, 3), 1);
        x.say(0, 60, NONE);
        x.input(0, 1, 2, NONE);
        x.menu(0);
        due.is("the keys are told anew", x.key(0, 1089, 4), 1);
        Due.pressAll(x, x.call(0), "089");
        due.is("089 is one again", x.ways(0, 4), 1);
    }

    private void rowsThatAreDone() {
        Menuline x = new Menuline();
        x.menu(0);
        x.key(0, 11, 1);
        x.key(0, 112, 2);
        x.key(0, 1345, 3);
        int call = x.call(0);
        x.press(call, 1);
        x.pass(2);
        due.is("the gap is not over", x.nodeOf(call), 0);
        x.pass(1);
        due.is("1 behind the gap", x.ways(0, 1), 1);
        call = x.call(0);
        Due.pressAll(x, call, "1#");
        due.is("1 with #", x.ways(0, 1), 2);
        call = x.call(0);
        Due.pressAll(x, call, "1*");
        x.pass(9);
        due.is("with * one waits for the first digit", x.nodeOf(call), 0);
        x.pass(1);
        due.is("that is a miss", x.state(call), Menuline.IN_FLOW);
        Due.pressAll(x, call, "12");
        due.is("12 behind it", x.ways(0, 2), 1);
        call = x.call(0);
        x.press(call, 3);
        x.pass(2);
        x.press(call, 4);
        x.pass(2);
        due.is("each digit has its gap", x.press(call, 5), NONE);
        due.is("345", x.ways(0, 3), 1);
        call = x.call(0);
        Due.pressAll(x, call, "34");
        x.pass(3);
        due.is("34 is a miss", x.nodeOf(call), 0);
        x.pass(10);
        due.is("a second one", x.end(call), Menuline.ENDED);
        due.is("fails to NONE", x.ways(0, NONE), 1);
    }

    private void misses() {
        Menuline x = new Menuline();
        x.menu(0);
        x.key(0, 15, 1);
        x.times(0, 4, 2, 3, 9);
        x.say(9, 60, NONE);
        int call = x.call(0);
        due.is("a digit that begins no key", x.press(call, 6), 0);
        x.pass(3);
        due.is("# with nothing there", x.press(call, 11), 0);
        x.pass(3);
        due.is("two misses", x.nodeOf(call), 0);
        x.pass(1);
        due.is("the third one fails", x.nodeOf(call), 9);
        due.is("its way", x.ways(0, 9), 1);
        x.hang(call);
        x.times(0, 4, 2, 1, 9);
        call = x.call(0);
        due.is("one try", x.press(call, 11), 9);
        x.hang(call);
        x.times(0, 4, 2, 5, 0);
        call = x.call(0);
        for (int miss = 1; miss <= 4; miss++) {
            due.is("miss " + miss, x.press(call, 1), 0);
        }
        due.is("no way ahead of the fifth", x.ways(0, 0), 0);
        due.is("it fails to itself", x.press(call, 1), 0);
        due.is("a way then", x.ways(0, 0), 1);
        x.pass(4);
        due.is("and has five tries again", x.ways(0, 0), 1);
        x.pass(16);
        due.is("by time", x.ways(0, 0), 2);
    }

    private void missesCountFromComing() {
        Menuline x = new Menuline();
        x.menu(0);
        x.key(0, 11, 0);
        int call = x.call(0);
        for (int i = 0; i < 5; i++) {
            due.is("one miss", x.press(call, 7), 0);
            due.is("to the menu again", x.press(call, 1), 0);
        }
        due.is("five ways", x.ways(0, 0), 5);
        x.press(call, 7);
        due.is("two misses", x.press(call, 7), NONE);
    }

    private void starIsNoMiss() {
        Menuline x = new Menuline();
        x.menu(0);
        x.key(0, 1123, 1);
        x.input(2, 2, 3, 1);
        for (int node : new int[] {0, 2}) {
            int call = x.call(node);
            for (int i = 0; i < 6; i++) {
                Due.pressAll(x, call, "12*");
                x.pass(9);
                due.is("* at node " + node, x.press(call, 10), node);
                x.pass(9);
            }
            x.pass(1);
            due.is("one miss", x.nodeOf(call), node);
            due.is("two misses", x.press(call, 11), NONE);
        }
    }

    private void keysToNone() {
        Menuline x = new Menuline();
        x.menu(0);
        x.key(0, 13, NONE);
        int call = x.call(0);
        due.is("a key to NONE", x.press(call, 3), NONE);
        due.is("ends the call", x.end(call), Menuline.ENDED);
        due.is("its way", x.ways(0, NONE), 1);
        x.key(0, 13, 4);
        x.press(x.call(0), 3);
        due.is("another node for it", x.ways(0, 4), 1);
    }

    private void timesOfMenus() {
        Menuline x = new Menuline();
        x.menu(0);
        x.key(0, 112, 1);
        x.times(0, 60, 20, 1, 5);
        int call = x.call(0);
        x.pass(59);
        due.is("ahead of the wait", x.nodeOf(call), 0);
        x.press(call, 1);
        x.pass(19);
        due.is("ahead of the gap", x.nodeOf(call), 0);
        x.pass(1);
        due.is("behind the gap", x.ways(0, 5), 1);
        call = x.call(0);
        x.pass(60);
        due.is("behind the wait", x.ways(0, 5), 2);
        x.times(0, 1, 1, 1, NONE);
        call = x.call(0);
        x.pass(1);
        due.is("the shortest wait", x.state(call), Menuline.OVER);
    }

    private void inputs() {
        Menuline x = new Menuline();
        x.input(0, 2, 4, 1);
        x.say(1, 60, NONE);
        int call = x.call(0);
        Due.pressAll(x, call, "0012");
        due.is("the most digits are done at once", x.nodeOf(call), 1);
        due.is("the number of 0012", x.numberOf(call), 12);
        call = x.call(0);
        Due.pressAll(x, call, "73#");
        due.is("the least digits with #", x.numberOf(call), 73);
        call = x.call(0);
        Due.pressAll(x, call, "815");
        x.pass(2);
        due.is("ahead of the gap", x.numberOf(call), 0);
        x.pass(1);
        due.is("behind the gap", x.numberOf(call), 815);
        due.is("it goes on", x.nodeOf(call), 1);
        due.is("ways", x.ways(0, 1), 3);
        call = x.call(0);
        Due.pressAll(x, call, "99*0000");
        due.is("behind *", x.nodeOf(call), 1);
        due.is("the number of 0000", x.numberOf(call), 0);
    }

    private void inputRows() {
        Menuline x = new Menuline();
        x.input(0, 2, 3, 1);
        x.input(1, 1, 1, 2);
        x.say(2, 60, NONE);
        int call = x.call(0);
        Due.pressAll(x, call, "5#");
        due.is("too few digits are a miss", x.nodeOf(call), 0);
        Due.pressAll(x, call, "123");
        due.is("the number", x.numberOf(call), 123);
        due.is("at the next input", x.nodeOf(call), 1);
        x.press(call, 11);
        due.is("a miss leaves the number", x.numberOf(call), 123);
        due.is("the next number", x.press(call, 4), 2);
        due.is("takes its place", x.numberOf(call), 4);
        call = x.call(0);
        x.press(call, 6);
        x.pass(3);
        due.is("too few digits behind the gap", x.nodeOf(call), 0);
        x.pass(9);
        due.is("the wait again", x.nodeOf(call), 0);
        x.pass(1);
        due.is("two misses", x.ways(0, NONE), 1);
        due.is("no number", x.numberOf(call), 0);
    }

    private void branchOpenAndDay() {
        Menuline x = new Menuline();
        x.branch(0, Menuline.OPEN, 7, 7, 1, 2);
        x.branch(3, Menuline.DAY, 6, 60, 4, 5);
        x.branch(6, Menuline.DAY, 0, 0, 7, 8);
        x.call(0);
        due.is("closed at 0", x.ways(0, 2), 1);
        x.pass(80);
        x.call(0);
        due.is("open at 80", x.ways(0, 1), 1);
        x.call(6);
        due.is("it is the day 0", x.ways(6, 7), 1);
        Due.passTo(x, 80, 6 * 240 - 1);
        x.call(3);
        due.is("it is not the day 6", x.ways(3, 5), 1);
        x.pass(1);
        x.call(3);
        due.is("it is the day 6", x.ways(3, 4), 1);
        x.call(6);
        due.is("it is not the day 0", x.ways(6, 8), 1);
        Due.passTo(x, 6 * 240, 7 * 240);
        x.call(6);
        due.is("it is the day 0 again", x.ways(6, 7), 2);
    }

    private void branchNumber() {
        Menuline x = new Menuline();
        x.input(0, 1, 6, 1);
        x.branch(1, Menuline.NUMBER, 42, 60, 2, 3);
        Due.pressAll(x, x.call(0), "41#");
        due.is("41", x.ways(1, 3), 1);
        Due.pressAll(x, x.call(0), "42#");
        due.is("42", x.ways(1, 2), 1);
        Due.pressAll(x, x.call(0), "999999");
        due.is("999999", x.ways(1, 2), 2);
        x.call(1);
        due.is("no number", x.ways(1, 3), 2);
        x.branch(1, Menuline.NUMBER, 0, 0, 2, 3);
        x.call(1);
        due.is("no number is 0", x.ways(1, 2), 3);
    }

    private void branchWaits() {
        Menuline x = new Menuline();
        x.queue(0, 3, 0, 500, 30, NONE);
        x.queue(1, 2, 0, 500, 30, NONE);
        x.branch(2, Menuline.WAITS, 3, 2, 5, 6);
        x.branch(3, Menuline.WAITS, 3, 0, 5, 6);
        x.queue(4, 3, 0, 1, 30, 2);
        x.queue(7, 3, 0, 1, 30, 8);
        x.callback(8);
        x.call(3);
        due.is("at least 0 wait", x.ways(3, 5), 1);
        x.call(0);
        x.call(1);
        x.call(2);
        due.is("one waits for the skill", x.ways(2, 6), 1);
        x.call(4);
        due.is("two wait", x.waiting(3), 2);
        x.pass(1);
        due.is("who goes on does not wait", x.ways(2, 6), 2);
        x.call(7);
        x.pass(1);
        x.call(2);
        due.is("one who is AWAY waits", x.ways(2, 5), 1);
        x.signOn(0, 8);
        x.call(2);
        due.is("who talks does not wait", x.ways(2, 6), 3);
    }

    private void branchFree() {
        Menuline x = new Menuline();
        x.branch(0, Menuline.FREE, 4, 60, 1, 2);
        x.queue(3, 4, 0, 500, 30, NONE);
        x.call(0);
        due.is("nobody is there", x.ways(0, 2), 1);
        x.signOn(2, 15);
        x.call(0);
        due.is("nobody has the skill", x.ways(0, 2), 2);
        x.signOn(5, 16);
        x.call(0);
        due.is("someone has", x.ways(0, 1), 1);
        x.call(3);
        due.is("taken", x.agent(5), Menuline.BUSY);
        x.call(0);
        due.is("who is BUSY is not free", x.ways(0, 2), 3);
        x.finish(5);
        x.call(0);
        due.is("who wraps up is not free", x.ways(0, 2), 4);
        x.pass(5);
        x.call(0);
        due.is("READY again", x.ways(0, 1), 2);
        x.signOff(5);
        x.call(0);
        due.is("OFF", x.ways(0, 2), 5);
    }

    private void subFlows() {
        Menuline x = new Menuline();
        x.sub(0, 1, 10);
        x.sub(1, 2, 11);
        x.say(2, 5, 3);
        x.back(3);
        x.say(10, 60, NONE);
        x.say(11, 4, 3);
        int call = x.call(0);
        due.is("inside", x.nodeOf(call), 2);
        x.pass(5);
        due.is("the latest one first", x.nodeOf(call), 11);
        x.pass(4);
        due.is("then the one ahead of it", x.nodeOf(call), 10);
        int[][] ways = {{0, 1}, {1, 2}, {2, 3}, {3, 11}, {11, 3}, {3, 10}};
        for (int[] way : ways) {
            due.is("ways " + way[0] + " " + way[1], x.ways(way[0], way[1]), 1);
        }
        due.is("ways 1 11", x.ways(1, 11), 0);
        x.hang(call);
        x.say(10, 1, 3);
        call = x.call(0);
        x.pass(10);
        due.is("none to come back to", x.ways(3, NONE), 1);
        due.is("that is the end", x.end(call), Menuline.ENDED);
        x.sub(0, 1, NONE);
        call = x.call(0);
        x.pass(9);
        due.is("back to NONE", x.ways(3, NONE), 2);
    }

    private void deep() {
        Menuline x = new Menuline();
        for (int node = 0; node < 5; node++) {
            x.sub(node, node + 1, 20);
        }
        x.say(4, 2, 5);
        x.back(5);
        x.back(20);
        int call = x.call(0);
        x.pass(2);
        due.is("four can be there", x.end(call), Menuline.ENDED);
        due.is("three of them by the back", x.ways(20, 20), 3);
        x.sub(4, 5, 20);
        call = x.call(0);
        due.is("a fifth is too deep", x.end(call), Menuline.DEEP);
        due.is("its state", x.state(call), Menuline.OVER);
        due.is("it is at no node", x.nodeOf(call), NONE);
        due.is("it came to the fifth", x.ways(3, 4), 2);
        due.is("it goes nowhere", x.ways(4, 5) + x.ways(4, NONE), 1);
        x.sub(0, 6, 1);
        x.back(6);
        call = x.call(0);
        due.is("who came back has room again", x.end(call), Menuline.ENDED);
        due.is("through all of them", x.ways(4, 5), 2);
    }

    private void loopFromOutside() {
        Menuline x = new Menuline();
        Due.chain(x, 0, 29, NONE);
        int call = x.call(10);
        due.is("twenty nodes", x.end(call), Menuline.ENDED);
        due.is("to the end", x.ways(29, NONE), 1);
        call = x.call(9);
        due.is("twenty-one nodes", x.end(call), Menuline.LOOP);
        due.is("its state", x.state(call), Menuline.OVER);
        due.is("no way to the last", x.ways(28, 29), 1);
        due.is("a way to the one ahead", x.ways(27, 28), 2);
        x.say(29, 1, NONE);
        due.is("a stay at the twentieth", x.nodeOf(x.call(10)), 29);
        x.hang(2);
        x.sub(28, 28, 28);
        x.branch(0, Menuline.NUMBER, 0, 0, 0, 0);
        due.is("a node to itself", x.end(x.call(0)), Menuline.LOOP);
        due.is("nineteen ways", x.ways(0, 0), 19);
    }

    private void loopFromAStay() {
        Menuline x = new Menuline();
        Due.chain(x, 0, 27, NONE);
        x.say(28, 1, 8);
        x.say(29, 1, 7);
        int call = x.call(28);
        x.pass(1);
        due.is("twenty nodes behind a stay", x.end(call), Menuline.ENDED);
        call = x.call(29);
        x.pass(1);
        due.is("twenty-one nodes behind a stay", x.end(call), Menuline.LOOP);
        due.is("the way from the stay", x.ways(29, 7), 1);
        due.is("no way at the last", x.ways(26, 27), 1);
        x.menu(28);
        x.key(28, 11, 19);
        x.branch(27, Menuline.NUMBER, 0, 0, 28, NONE);
        call = x.call(19);
        for (int i = 0; i < 6; i++) {
            due.is("a stay begins anew", x.press(call, 1), 28);
        }
    }

    private void loopThroughTransfer() {
        Menuline x = new Menuline();
        Due.chain(x, 0, 19, 20);
        Due.chain(x, 21, 29, NONE);
        x.queue(20, 0, 0, 10, 1, NONE);
        x.queue(21, 0, 0, 10, 1, NONE);
        x.signOn(0, 1);
        int call = x.call(21);
        due.is("taken", x.callOf(0), call);
        due.is("transfer", x.transfer(0, 1), call);
        due.is("twenty nodes from a transfer on", x.nodeOf(call), 20);
        x.pass(5);
        due.is("taken again", x.callOf(0), call);
        x.transfer(0, 0);
        due.is("twenty-one nodes from a transfer on", x.end(call), Menuline.LOOP);
        due.is("begun counts all the same", x.begun(0), 1);
    }

    private void overflowAtOnce() {
        Menuline x = new Menuline();
        x.queue(0, 1, 0, 500, 2, 5);
        x.queue(1, 1, 9, 500, 3, NONE);
        x.queue(2, 0, 0, 500, 1, 6);
        x.say(5, 60, NONE);
        x.call(0);
        due.is("it waits", x.state(0), Menuline.WAITING);
        x.call(0);
        due.is("below the cap", x.state(1), Menuline.WAITING);
        x.call(0);
        due.is("at the cap", x.nodeOf(2), 5);
        due.is("its way", x.ways(0, 5), 1);
        x.call(2);
        due.is("another skill", x.state(3), Menuline.WAITING);
        x.call(1);
        due.is("another queue for the same skill", x.state(4), Menuline.WAITING);
        x.call(1);
        due.is("the same cap for it", x.end(5), Menuline.ENDED);
        x.call(0);
        due.is("above the cap", x.nodeOf(6), 5);
        due.is("three wait", x.waiting(1), 3);
    }

    private void overflowByTime() {
        Menuline x = new Menuline();
        x.queue(0, 1, 0, 7, 2, 5);
        x.say(5, 60, NONE);
        x.queue(1, 1, 0, 1, 30, 1);
        x.call(0);
        x.pass(6);
        x.press(0, 3);
        due.is("ahead of the most ticks", x.state(0), Menuline.WAITING);
        x.pass(1);
        due.is("behind them", x.nodeOf(0), 5);
        due.is("its way", x.ways(0, 5), 1);
        due.is("nobody waits", x.waiting(1), 0);
        x.call(1);
        x.pass(3);
        due.is("a queue to itself", x.ways(1, 1), 3);
        due.is("a new claim", x.placeOf(1), 0);
        x.hang(0);
        x.hang(1);
        x.queue(2, 1, 0, 500, 2, NONE);
        int call = x.call(2);
        Due.passTo(x, 10, 509);
        due.is("ahead of 500", x.state(call), Menuline.WAITING);
        x.pass(1);
        due.is("behind 500", x.state(call), Menuline.OVER);
    }

    private void claims() {
        Menuline x = new Menuline();
        x.queue(0, 0, 0, 10, 30, 1);
        x.say(1, 5, 2);
        x.callback(2);
        x.queue(3, 0, 0, 500, 30, NONE);
        x.queue(4, 0, 0, 500, 1, 2);
        x.queue(5, 0, 3, 10, 30, 6);
        x.queue(6, 0, 0, 500, 1, 2);
        x.call(3);
        x.pass(1);
        x.call(0);
        x.pass(1);
        x.call(3);
        x.pass(13);
        due.is("in the say it does not wait", x.waiting(0), 2);
        x.pass(1);
        due.is("it is AWAY", x.state(1), Menuline.AWAY);
        due.is("by its old time it is ahead of 2", x.placeOf(1), 1);
        due.is("and 2 behind it", x.placeOf(2), 2);
        x.call(4);
        due.is("a claim of a full queue", x.state(3), Menuline.AWAY);
        due.is("since now", x.placeOf(3), 3);
        x.call(5);
        due.is("a claim with its priority", x.placeOf(4), 0);
        x.pass(10);
        due.is("a later claim takes the place", x.state(4), Menuline.AWAY);
        due.is("of the time and the priority", x.placeOf(4), 4);
        due.is("by replay", x.placeByReplay(4), 4);
    }

    private void oneMoment() {
        Menuline x = new Menuline();
        x.say(0, 5, 1);
        x.queue(1, 0, 0, 5, 1, 2);
        x.say(2, 60, NONE);
        x.call(0);
        x.call(0);
        x.pass(5);
        due.is("the lower number comes first", x.state(0), Menuline.WAITING);
        due.is("the higher one finds it full", x.nodeOf(1), 2);
        x.call(0);
        x.pass(5);
        due.is("the lower number leaves first", x.nodeOf(0), 2);
        due.is("so the higher one has room", x.state(2), Menuline.WAITING);
        due.is("ways", x.ways(1, 2), 2);
    }
}
