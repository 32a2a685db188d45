/** Objects with which the tests of edges begin. */
final class Scene {
    /** The nodes of quiet(), one of each kind; of the nodes above these nothing is told. */
    static final int QUEUE = 0, CALLBACK = 1, SAY = 2, MENU = 3, INPUT = 4, BRANCH = 5, SUB = 6, BACK = 7, BLANK = 8;

    private static final int NONE = Menuline.NONE;

    private Scene() {
    }

    static Menuline quiet() {
        Menuline x = new Menuline();
        for (int kind = QUEUE; kind <= BACK; kind++) {
            tell(x, kind, kind);
        }
        return x;
    }

    /** Tells a node of this kind; BLANK can't be told. */
    static void tell(Menuline x, int kind, int node) {
        switch (kind) {
            case QUEUE:
                x.queue(node, 0, 0, 500, 30, CALLBACK);
                x.leaving(node, CALLBACK);
                break;
            case CALLBACK:
                x.callback(node);
                break;
            case SAY:
                x.say(node, 60, NONE);
                break;
            case MENU:
                x.menu(node);
                break;
            case INPUT:
                x.input(node, 1, 6, NONE);
                break;
            case BRANCH:
                x.branch(node, Menuline.NUMBER, 0, 0, NONE, NONE);
                break;
            case SUB:
                x.sub(node, SAY, NONE);
                break;
            default:
                x.back(node);
                break;
        }
    }

    /** All nodes are of one kind. */
    static Menuline allOf(int kind) {
        Menuline x = new Menuline();
        for (int node = 0; node < 30; node++) {
            tell(x, kind, node);
        }
        return x;
    }

    /** The call 0 is in this state, with the agent 0 if with any. */
    static Menuline with(int state) {
        Menuline x = quiet();
        switch (state) {
            case Menuline.IN_FLOW:
                x.call(SAY);
                break;
            case Menuline.WAITING:
                x.call(QUEUE);
                break;
            case Menuline.TALKING:
                x.signOn(0, 1);
                x.call(QUEUE);
                break;
            case Menuline.AWAY:
                x.press(x.call(QUEUE), 1);
                break;
            case Menuline.RINGING:
                x.press(x.call(QUEUE), 1);
                x.signOn(0, 1);
                break;
            default:
                x.call(BLANK);
                break;
        }
        return x;
    }

    /** The call 0 is over in this way. */
    static Menuline over(int how) {
        Menuline x = how == Menuline.DONE ? with(Menuline.TALKING) : how == Menuline.LOST ? with(Menuline.RINGING) : quiet();
        switch (how) {
            case Menuline.HUNG:
                x.hang(x.call(SAY));
                break;
            case Menuline.LOOP:
                x.branch(9, Menuline.NUMBER, 0, 0, 9, 9);
                x.call(9);
                break;
            case Menuline.DEEP:
                x.sub(9, 9, NONE);
                x.call(9);
                break;
            case Menuline.DONE:
                x.finish(0);
                break;
            case Menuline.LOST:
                x.pass(6 + 30 + 6);
                break;
            default:
                x.call(BLANK);
                break;
        }
        return x;
    }

    /** The agent 0 does this. */
    static Menuline agent(int does) {
        Menuline x = does == Menuline.CALLING ? with(Menuline.RINGING)
                : does == Menuline.BUSY || does == Menuline.WRAPPING ? with(Menuline.TALKING) : quiet();
        if (does == Menuline.READY) {
            x.signOn(0, 1);
        }
        if (does == Menuline.WRAPPING) {
            x.finish(0);
        }
        return x;
    }

    /** With as many calls, all of them in a SAY. */
    static Menuline calls(int count) {
        Menuline x = quiet();
        for (int call = 0; call < count; call++) {
            x.call(SAY);
        }
        return x;
    }
}
