import java.util.Arrays;

/** A telephone answering system; ../shared/DOC.md says what each call of it promises. */
public final class Menuline {
    public static final int NONE = -1;
    public static final int OPEN = 0, NUMBER = 1, WAITS = 2, DAY = 3, FREE = 4;
    public static final int IN_FLOW = 0, WAITING = 1, TALKING = 2, AWAY = 3, RINGING = 4, OVER = 5;
    public static final int ENDED = 0, HUNG = 1, LOOP = 2, DEEP = 3, DONE = 4, LOST = 5;
    public static final int OFF = 0, READY = 1, BUSY = 2, CALLING = 3, WRAPPING = 4;

    private static final int NODES = 30, CALLS = 60, AGENTS = 6, SKILLS = 6;
    private static final int MOST_KEYS = 10, MOST_BACKS = 4, NODES_AT_ONCE = 20;
    private static final int DAYS = 84, WEEKDAYS = 7, DAY_TICKS = 240, LAST_TICK = 20000;
    private static final int RING_TICKS = 6, RING_AGAIN_TICKS = 30, RINGS = 2;
    private static final int MOST_NUMBER = 999999, MOST_DIGITS = 6;
    private static final int LEAVE = 1, STAR = 10, HASH = 11;

    /** In place of a node to go on to: there is no way on. NONE cannot say so, as it leads to the end. */
    private static final int NOWHERE = -2;

    private static final int BLANK = 0, SAY = 1, MENU = 2, INPUT = 3, BRANCH = 4;
    private static final int SUB = 5, BACK = 6, QUEUE = 7, CALLBACK = 8;

    private final Node[] nodes = new Node[NODES];
    private final Line[] lines = new Line[CALLS];
    private final Desk[] desks = new Desk[AGENTS];
    private final Week week = new Week();
    private final Journal journal = new Journal();
    private final int[][] wayCounts = new int[NODES][NODES + 1];
    private final int[] begunCounts = new int[NODES];
    private int lineCount;
    private int now;

    public Menuline() {
        for (int node = 0; node < NODES; node++) {
            nodes[node] = new Node();
        }
        for (int call = 0; call < CALLS; call++) {
            lines[call] = new Line(call);
        }
        for (int agent = 0; agent < AGENTS; agent++) {
            desks[agent] = new Desk();
        }
    }

    // ---- nodes

    public void say(int node, int ticks, int next)
            throws IndexOutOfBoundsException, IllegalArgumentException, IllegalStateException {
        requireNode(node);
        requireTarget(next);
        requireRange(ticks, 1, 60);
        requireQuiet();
        Node told = nodes[node];
        told.restart(SAY, next, NONE);
        told.ticks = ticks;
    }

    public void menu(int node) throws IndexOutOfBoundsException, IllegalStateException {
        requireNode(node);
        requireQuiet();
        nodes[node].restart(MENU, NONE, NONE);
    }

    public int key(int node, int key, int target)
            throws IndexOutOfBoundsException, IllegalArgumentException, IllegalStateException {
        requireNode(node);
        requireTarget(target);
        requireKey(key);
        requireQuiet();
        Node told = nodes[node];
        if (told.kind != MENU) {
            throw new IllegalStateException("the node is no menu");
        }
        if (!told.keys.put(key, target)) {
            throw new IllegalStateException("the menu has 10 other keys");
        }
        return told.keys.size;
    }

    public void input(int node, int least, int most, int next)
            throws IndexOutOfBoundsException, IllegalArgumentException, IllegalStateException {
        requireNode(node);
        requireTarget(next);
        requireRange(least, 1, MOST_DIGITS);
        requireRange(most, least, MOST_DIGITS);
        requireQuiet();
        Node told = nodes[node];
        told.restart(INPUT, next, NONE);
        told.least = least;
        told.most = most;
    }

    public void times(int node, int wait, int gap, int tries, int failing)
            throws IndexOutOfBoundsException, IllegalArgumentException, IllegalStateException {
        requireNode(node);
        requireTarget(failing);
        requireRange(wait, 1, 60);
        requireRange(gap, 1, 20);
        requireRange(tries, 1, 5);
        requireQuiet();
        Node told = nodes[node];
        if (told.kind != MENU && told.kind != INPUT) {
            throw new IllegalStateException("the node is neither a menu nor an input");
        }
        told.wait = wait;
        told.gap = gap;
        told.tries = tries;
        told.other = failing;
    }

    public void branch(int node, int what, int a, int b, int yes, int no)
            throws IndexOutOfBoundsException, IllegalArgumentException, IllegalStateException {
        requireNode(node);
        requireTarget(yes);
        requireTarget(no);
        requireRange(what, OPEN, FREE);
        requireRange(a, 0, mostAsked(what));
        requireRange(b, 0, CALLS);
        requireQuiet();
        Node told = nodes[node];
        told.restart(BRANCH, yes, no);
        told.what = what;
        told.a = a;
        told.b = b;
    }

    public void sub(int node, int target, int back) throws IndexOutOfBoundsException, IllegalStateException {
        requireNode(node);
        requireTarget(target);
        requireTarget(back);
        requireQuiet();
        nodes[node].restart(SUB, target, back);
    }

    public void back(int node) throws IndexOutOfBoundsException, IllegalStateException {
        requireNode(node);
        requireQuiet();
        nodes[node].restart(BACK, NONE, NONE);
    }

    public void queue(int node, int skill, int priority, int most, int cap, int overflow)
            throws IndexOutOfBoundsException, IllegalArgumentException, IllegalStateException {
        requireNode(node);
        requireTarget(overflow);
        requireRange(skill, 0, SKILLS - 1);
        requireRange(priority, 0, 9);
        requireRange(most, 1, 500);
        requireRange(cap, 1, 30);
        requireQuiet();
        Node told = nodes[node];
        told.restart(QUEUE, overflow, NOWHERE);
        told.skill = skill;
        told.priority = priority;
        told.most = most;
        told.cap = cap;
    }

    public void leaving(int node, int target) throws IndexOutOfBoundsException, IllegalStateException {
        requireNode(node);
        requireTarget(target);
        requireQuiet();
        Node told = nodes[node];
        if (told.kind != QUEUE) {
            throw new IllegalStateException("the node is no queue");
        }
        told.other = target;
    }

    public void callback(int node) throws IndexOutOfBoundsException, IllegalStateException {
        requireNode(node);
        requireQuiet();
        nodes[node].restart(CALLBACK, NONE, NONE);
    }

    // ---- hours

    public void hours(int weekday, int from, int to) throws IllegalArgumentException {
        requireRange(weekday, 0, WEEKDAYS - 1);
        requireRange(from, 0, DAY_TICKS);
        requireRange(to, from, DAY_TICKS);
        week.from[weekday] = from;
        week.to[weekday] = to;
    }

    public boolean holiday(int day, boolean is) throws IllegalArgumentException {
        requireRange(day, 0, DAYS - 1);
        boolean was = week.holidays[day];
        week.holidays[day] = is;
        return was;
    }

    public boolean isOpen() {
        return week.isOpenAt(now);
    }

    // ---- calls

    public int call(int node) throws IndexOutOfBoundsException, IllegalStateException {
        requireNode(node);
        if (lineCount >= CALLS) {
            throw new IllegalStateException("there are 60 calls");
        }
        int call = lineCount;
        lineCount++;
        bringIn(lines[call], node);
        settle();
        return call;
    }

    public int press(int call, int key)
            throws IndexOutOfBoundsException, IllegalArgumentException, IllegalStateException {
        requireCall(call);
        requireRange(key, 0, HASH);
        Line line = lines[call];
        if (line.state != IN_FLOW && line.state != WAITING) {
            throw new IllegalStateException("nobody listens to the call");
        }
        int target = answerTo(line, key);
        if (target != NOWHERE) {
            lead(line, target);
            settle();
        }
        return line.node;
    }

    public int hang(int call) throws IndexOutOfBoundsException, IllegalStateException {
        requireCall(call);
        Line line = lines[call];
        int did = line.state;
        if (did == OVER) {
            throw new IllegalStateException("the call is over");
        }
        close(line, HUNG);
        settle();
        return did;
    }

    public int pick(int call) throws IndexOutOfBoundsException, IllegalStateException {
        requireCall(call);
        Line line = lines[call];
        if (line.state != RINGING) {
            throw new IllegalStateException("the call does not ring");
        }
        turn(line, TALKING);
        if (isAgent(line.agent)) {
            desks[line.agent].state = BUSY;
        }
        return line.agent;
    }

    // ---- agents

    public int signOn(int agent, int skills)
            throws IndexOutOfBoundsException, IllegalArgumentException, IllegalStateException {
        requireAgent(agent);
        requireRange(skills, 1, (1 << SKILLS) - 1);
        Desk desk = desks[agent];
        requireNoCall(desk);
        desk.skills = skills;
        if (desk.state == OFF) {
            desk.makeReady(now);
        }
        settle();
        return desk.call;
    }

    public int signOff(int agent) throws IndexOutOfBoundsException, IllegalStateException {
        requireAgent(agent);
        Desk desk = desks[agent];
        requireNoCall(desk);
        int did = desk.state;
        desk.state = OFF;
        return did;
    }

    public int wrap(int agent, int ticks) throws IndexOutOfBoundsException, IllegalArgumentException {
        requireAgent(agent);
        requireRange(ticks, 0, 30);
        Desk desk = desks[agent];
        int before = desk.wrapTicks;
        desk.wrapTicks = ticks;
        return before;
    }

    public int finish(int agent) throws IndexOutOfBoundsException, IllegalStateException {
        requireAgent(agent);
        Desk desk = desks[agent];
        requireBusy(desk);
        int call = desk.call;
        if (isCall(call)) {
            close(lines[call], DONE);
        }
        settle();
        return call;
    }

    public int transfer(int agent, int node) throws IndexOutOfBoundsException, IllegalStateException {
        requireAgent(agent);
        requireNode(node);
        Desk desk = desks[agent];
        requireBusy(desk);
        int call = desk.call;
        if (isCall(call)) {
            Line line = lines[call];
            letGo(line);
            line.forgetTheWay();
            bringIn(line, node);
        }
        // One taking for both changes, so that the agent who is free chooses among all calls, this one too.
        settle();
        return call;
    }

    public int pass(int ticks) throws IllegalArgumentException, IllegalStateException {
        requireRange(ticks, 1, 100);
        if (now + ticks > LAST_TICK) {
            throw new IllegalStateException("the time would be above 20000");
        }
        for (int tick = 0; tick < ticks; tick++) {
            now++;
            moveTimedLines();
            endWrappings();
            settle();
        }
        return now;
    }

    // ---- what is so

    public int calls() {
        return lineCount;
    }

    public int state(int call) throws IndexOutOfBoundsException {
        requireCall(call);
        return lines[call].state;
    }

    public int end(int call) throws IndexOutOfBoundsException {
        requireCall(call);
        return lines[call].end;
    }

    public int nodeOf(int call) throws IndexOutOfBoundsException {
        requireCall(call);
        return lines[call].node;
    }

    public int numberOf(int call) throws IndexOutOfBoundsException {
        requireCall(call);
        return lines[call].number;
    }

    public int placeOf(int call) throws IndexOutOfBoundsException {
        requireCall(call);
        Line line = lines[call];
        if (!line.isInLine()) {
            return NONE;
        }
        int score = line.scoreAt(now);
        int place = 0;
        for (int other = 0; other < lineCount; other++) {
            Line rival = lines[other];
            if (rival.waitsFor(line.skill) && isAhead(rival.scoreAt(now), other, score, call)) {
                place++;
            }
        }
        return place;
    }

    public int placeByReplay(int call) throws IndexOutOfBoundsException {
        requireCall(call);
        return journal.placeAt(call, now);
    }

    public int waiting(int skill) throws IllegalArgumentException {
        requireRange(skill, 0, SKILLS - 1);
        return waitersFor(skill);
    }

    public int agent(int agent) throws IndexOutOfBoundsException {
        requireAgent(agent);
        return desks[agent].state;
    }

    public int callOf(int agent) throws IndexOutOfBoundsException {
        requireAgent(agent);
        return desks[agent].call;
    }

    public int ways(int from, int to) throws IndexOutOfBoundsException {
        requireNode(from);
        requireTarget(to);
        return wayCounts[from][to + 1];
    }

    public int begun(int node) throws IndexOutOfBoundsException {
        requireNode(node);
        return begunCounts[node];
    }

    // ---- what calls demand

    private void requireNode(int node) {
        if (!isNode(node)) {
            throw new IndexOutOfBoundsException("no such node");
        }
    }

    private void requireTarget(int target) {
        if (target != NONE && !isNode(target)) {
            throw new IndexOutOfBoundsException("no such node to lead on to");
        }
    }

    private void requireCall(int call) {
        if (!isCall(call)) {
            throw new IndexOutOfBoundsException("no such call");
        }
    }

    private void requireAgent(int agent) {
        if (!isAgent(agent)) {
            throw new IndexOutOfBoundsException("no such agent");
        }
    }

    private void requireRange(int value, int least, int most) {
        if (value < least || value > most) {
            throw new IllegalArgumentException("out of range");
        }
    }

    private void requireKey(int key) {
        boolean one = key >= 10 && key <= 19;
        boolean two = key >= 100 && key <= 199;
        boolean three = key >= 1000 && key <= 1999;
        if (!one && !two && !three) {
            throw new IllegalArgumentException("no key is told so");
        }
    }

    private void requireQuiet() {
        for (int call = 0; call < lineCount; call++) {
            if (lines[call].state != OVER) {
                throw new IllegalStateException("a call is not over");
            }
        }
    }

    private void requireNoCall(Desk desk) {
        if (desk.state == BUSY || desk.state == CALLING) {
            throw new IllegalStateException("the agent is busy or calling");
        }
    }

    private void requireBusy(Desk desk) {
        if (desk.state != BUSY) {
            throw new IllegalStateException("the agent is not busy");
        }
    }

    private static boolean isNode(int node) {
        return node >= 0 && node < NODES;
    }

    private boolean isCall(int call) {
        return call >= 0 && call < lineCount;
    }

    private static boolean isAgent(int agent) {
        return agent >= 0 && agent < AGENTS;
    }

    private static int mostAsked(int what) {
        switch (what) {
            case WAITS:
            case FREE:
                return SKILLS - 1;
            case DAY:
                return WEEKDAYS - 1;
            default:
                return MOST_NUMBER;
        }
    }

    // ---- how calls go on

    private void bringIn(Line line, int node) {
        if (isNode(node)) {
            begunCounts[node]++;
        }
        lead(line, node);
    }

    /** Brings a call to a node, and on from there, until it stays at one or is over. */
    private void lead(Line line, int target) {
        turn(line, IN_FLOW);
        int to = target;
        for (int come = 0; come <= NODES_AT_ONCE && to != NOWHERE; come++) {
            if (come == NODES_AT_ONCE && isNode(to)) {
                close(line, LOOP);
                return;
            }
            countWay(line.node, to);
            if (!isNode(to)) {
                close(line, ENDED);
                return;
            }
            line.node = to;
            to = enter(line, nodes[to]);
        }
    }

    /** Answers where the call goes on at once; NOWHERE if it stays or is over. */
    private int enter(Line line, Node node) {
        switch (node.kind) {
            case SAY:
                line.until = now + node.ticks;
                return NOWHERE;
            case MENU:
            case INPUT:
                line.misses = 0;
                line.emptyRow(now + node.wait);
                return NOWHERE;
            case BRANCH:
                return isSo(line, node) ? node.next : node.other;
            case SUB:
                if (!line.pushBack(node.other)) {
                    close(line, DEEP);
                    return NOWHERE;
                }
                return node.next;
            case BACK:
                return line.popBack();
            case QUEUE:
                line.claim(node, now);
                if (waitersFor(node.skill) >= node.cap) {
                    return node.next;
                }
                line.until = now + node.most;
                turn(line, WAITING);
                return NOWHERE;
            case CALLBACK:
                if (!line.hasClaim) {
                    close(line, ENDED);
                    return NOWHERE;
                }
                line.node = NONE;
                line.rings = 0;
                turn(line, AWAY);
                return NOWHERE;
            default:
                return NONE;
        }
    }

    private boolean isSo(Line line, Node node) {
        switch (node.what) {
            case OPEN:
                return week.isOpenAt(now);
            case NUMBER:
                return line.number >= node.a;
            case WAITS:
                return waitersFor(node.a) >= node.b;
            case DAY:
                return Week.weekdayAt(now) == node.a;
            default:
                return isSomeoneReadyFor(node.a);
        }
    }

    private boolean isSomeoneReadyFor(int skill) {
        for (int agent = 0; agent < AGENTS; agent++) {
            Desk desk = desks[agent];
            if (desk.state == READY && (desk.skills & (1 << skill)) != 0) {
                return true;
            }
        }
        return false;
    }

    private int answerTo(Line line, int key) {
        if (!isNode(line.node)) {
            return NOWHERE;
        }
        Node node = nodes[line.node];
        switch (node.kind) {
            case MENU:
            case INPUT:
                return answerInRow(line, node, key);
            case QUEUE:
                return key == LEAVE ? node.other : NOWHERE;
            default:
                return NOWHERE;
        }
    }

    private int answerInRow(Line line, Node node, int key) {
        if (key == STAR) {
            line.emptyRow(now + node.wait);
            return NOWHERE;
        }
        if (key == HASH) {
            return endRow(line, node);
        }
        line.addDigit(key, now + node.gap);
        if (node.canGrow(line.row, line.digits)) {
            return NOWHERE;
        }
        return endRow(line, node);
    }

    /** Answers where a row leads that is done as it is; NOWHERE if it is a miss and one waits anew. */
    private int endRow(Line line, Node node) {
        int target = NOWHERE;
        if (node.kind == MENU) {
            target = node.keys.targetOf(line.row);
        } else if (line.digits >= node.least) {
            line.number = line.numberTold();
            target = node.next;
        }
        if (target != NOWHERE) {
            return target;
        }
        line.misses++;
        if (line.misses >= node.tries) {
            return node.other;
        }
        line.emptyRow(now + node.wait);
        return NOWHERE;
    }

    private void moveTimedLines() {
        for (int call = 0; call < lineCount; call++) {
            Line line = lines[call];
            if (line.until != now) {
                continue;
            }
            if (line.state == RINGING) {
                ringInVain(line);
            } else if (line.state == IN_FLOW || line.state == WAITING) {
                int target = timeUp(line);
                if (target != NOWHERE) {
                    lead(line, target);
                }
            }
        }
    }

    private int timeUp(Line line) {
        if (!isNode(line.node)) {
            return NOWHERE;
        }
        Node node = nodes[line.node];
        if (node.kind == MENU || node.kind == INPUT) {
            return endRow(line, node);
        }
        return node.next;
    }

    private void ringInVain(Line line) {
        line.rings++;
        if (line.rings >= RINGS) {
            close(line, LOST);
            return;
        }
        letGo(line);
        line.notAhead = now + RING_AGAIN_TICKS;
        turn(line, AWAY);
    }

    private void close(Line line, int how) {
        letGo(line);
        turn(line, OVER);
        line.end = how;
        line.node = NONE;
    }

    /** Every change of what a call does goes through here, so that the journal misses no waiting. */
    private void turn(Line line, int state) {
        if (line.isInLine()) {
            journal.write(line.call, NONE, 0, now);
        }
        line.state = state;
        if (line.isInLine()) {
            journal.write(line.call, line.skill, line.priority, line.since);
        }
    }

    private void countWay(int from, int to) {
        boolean isWay = isNode(from) && (to == NONE || isNode(to));
        if (isWay) {
            wayCounts[from][to + 1]++;
        }
    }

    // ---- how agents take calls

    private void endWrappings() {
        for (int agent = 0; agent < AGENTS; agent++) {
            Desk desk = desks[agent];
            if (desk.state == WRAPPING && desk.wrappedAt <= now) {
                desk.makeReady(now);
            }
        }
    }

    private void settle() {
        takeCalls();
        journal.strikeCeased();
    }

    private void takeCalls() {
        // Nobody becomes READY by taking, so there are no more rounds than agents.
        for (int round = 0; round < AGENTS; round++) {
            int agent = nextTaker();
            if (!isAgent(agent)) {
                return;
            }
            int call = firstFor(desks[agent].skills);
            if (isCall(call)) {
                take(agent, lines[call]);
            }
        }
    }

    private int nextTaker() {
        int wanted = skillsWanted();
        int taker = NONE;
        int since = 0;
        for (int agent = 0; agent < AGENTS; agent++) {
            Desk desk = desks[agent];
            boolean canTake = desk.state == READY && (desk.skills & wanted) != 0;
            if (canTake && (taker == NONE || desk.readySince < since)) {
                taker = agent;
                since = desk.readySince;
            }
        }
        return taker;
    }

    private int skillsWanted() {
        int wanted = 0;
        for (int call = 0; call < lineCount; call++) {
            Line line = lines[call];
            if (line.canBeTaken(now)) {
                wanted |= 1 << line.skill;
            }
        }
        return wanted;
    }

    private int firstFor(int skills) {
        int first = NONE;
        int best = 0;
        for (int call = 0; call < lineCount; call++) {
            Line line = lines[call];
            if (line.canBeTaken(now) && (skills & (1 << line.skill)) != 0) {
                int score = line.scoreAt(now);
                if (first == NONE || isAhead(score, call, best, first)) {
                    first = call;
                    best = score;
                }
            }
        }
        return first;
    }

    private void take(int agent, Line line) {
        boolean talks = line.state == WAITING;
        turn(line, talks ? TALKING : RINGING);
        line.agent = agent;
        line.node = NONE;
        line.until = now + RING_TICKS;
        Desk desk = desks[agent];
        desk.call = line.call;
        desk.state = talks ? BUSY : CALLING;
    }

    /** Parts a call from the agent who talks with it or calls it, if there is one. */
    private void letGo(Line line) {
        if (!isAgent(line.agent)) {
            return;
        }
        Desk desk = desks[line.agent];
        line.agent = NONE;
        if (line.state == TALKING && desk.wrapTicks > 0) {
            desk.wrapUp(now);
        } else {
            desk.makeReady(now);
        }
    }

    private int waitersFor(int skill) {
        int waiters = 0;
        for (int call = 0; call < lineCount; call++) {
            if (lines[call].waitsFor(skill)) {
                waiters++;
            }
        }
        return waiters;
    }

    private static boolean isAhead(int score, int call, int otherScore, int otherCall) {
        return score > otherScore || score == otherScore && call < otherCall;
    }

    private static int scoreOf(int priority, int ticks) {
        return (priority + 1) * (ticks + 10);
    }

    /** What was told of a node. */
    private static final class Node {
        int kind = BLANK;
        /** Also yes of a BRANCH, the target of a SUB, and overflow of a QUEUE. */
        int next = NONE;
        /** No of a BRANCH, back of a SUB, leaving of a QUEUE, and failing of a MENU or an INPUT. */
        int other = NONE;
        int ticks, wait, gap, tries;
        int least, most;
        int what, a, b;
        int skill, priority, cap;
        final Keys keys = new Keys();

        void restart(int newKind, int newNext, int newOther) {
            kind = newKind;
            next = newNext;
            other = newOther;
            wait = 10;
            gap = 3;
            tries = 2;
            keys.size = 0;
        }

        boolean canGrow(int row, int digits) {
            return kind == MENU ? keys.someBeginWith(row) : digits < most;
        }
    }

    /** The keys of a menu, told as in the document: with a 1 ahead of their digits. */
    private static final class Keys {
        final int[] codes = new int[MOST_KEYS];
        final int[] targets = new int[MOST_KEYS];
        int size;

        /** Answers false if there is no room. */
        boolean put(int code, int target) {
            int at = 0;
            while (at < size && at < MOST_KEYS && codes[at] != code) {
                at++;
            }
            if (at >= MOST_KEYS) {
                return false;
            }
            codes[at] = code;
            targets[at] = target;
            size = Math.max(size, at + 1);
            return true;
        }

        int targetOf(int row) {
            for (int at = 0; at < size && at < MOST_KEYS; at++) {
                if (codes[at] == row) {
                    return targets[at];
                }
            }
            return NOWHERE;
        }

        boolean someBeginWith(int row) {
            for (int at = 0; at < size && at < MOST_KEYS; at++) {
                if (codes[at] / 10 == row || codes[at] / 100 == row) {
                    return true;
                }
            }
            return false;
        }
    }

    /** A call: what it does, what it told, and its claim. */
    private static final class Line {
        final int call;
        int state = IN_FLOW;
        int end = NONE;
        int node = NONE;
        int agent = NONE;
        /** When its time at a node, or of ringing, is up. */
        int until = NONE;
        int number;
        /** The digits told so far, with a 1 ahead of them as in keys. */
        int row = 1;
        int digits, misses;
        boolean hasClaim;
        int skill, priority, since;
        /** When it can be taken again, and how often it rang in vain. */
        int notAhead, rings;
        final int[] backs = new int[MOST_BACKS];
        int depth;

        Line(int call) {
            this.call = call;
        }

        boolean isInLine() {
            return state == WAITING || state == AWAY;
        }

        boolean waitsFor(int wanted) {
            return skill == wanted && (state == WAITING || state == AWAY);
        }

        boolean canBeTaken(int now) {
            return state == WAITING || state == AWAY && notAhead <= now;
        }

        int scoreAt(int now) {
            return scoreOf(priority, now - since);
        }

        void claim(Node node, int now) {
            hasClaim = true;
            skill = node.skill;
            priority = node.priority;
            since = now;
        }

        void forgetTheWay() {
            hasClaim = false;
            depth = 0;
        }

        void emptyRow(int end) {
            row = 1;
            digits = 0;
            until = end;
        }

        void addDigit(int digit, int end) {
            row = row * 10 + digit;
            digits++;
            until = end;
        }

        int numberTold() {
            int ahead = 1;
            for (int digit = 0; digit < digits && digit < MOST_DIGITS; digit++) {
                ahead *= 10;
            }
            return row - ahead;
        }

        /** Answers false if there is no room. */
        boolean pushBack(int back) {
            if (depth < 0 || depth >= MOST_BACKS) {
                return false;
            }
            backs[depth] = back;
            depth++;
            return true;
        }

        int popBack() {
            if (depth <= 0 || depth > MOST_BACKS) {
                return NONE;
            }
            depth--;
            return backs[depth];
        }
    }

    /** An agent. */
    private static final class Desk {
        int state = OFF;
        int skills;
        int call = NONE;
        int wrapTicks = 5;
        int wrappedAt;
        int readySince;

        void makeReady(int now) {
            state = READY;
            call = NONE;
            readySince = now;
        }

        void wrapUp(int now) {
            state = WRAPPING;
            call = NONE;
            wrappedAt = now + wrapTicks;
        }
    }

    /** Opening hours and holidays. */
    private static final class Week {
        final int[] from = new int[WEEKDAYS];
        final int[] to = new int[WEEKDAYS];
        final boolean[] holidays = new boolean[DAYS];

        Week() {
            for (int weekday = 0; weekday < 5; weekday++) {
                from[weekday] = 80;
                to[weekday] = 180;
            }
        }

        static int weekdayAt(int time) {
            return time / DAY_TICKS % WEEKDAYS;
        }

        boolean isOpenAt(int time) {
            int day = time / DAY_TICKS;
            int tick = time % DAY_TICKS;
            int weekday = weekdayAt(time);
            if (day < 0 || day >= DAYS || holidays[day]) {
                return false;
            }
            return weekday >= 0 && weekday < WEEKDAYS && from[weekday] <= tick && tick < to[weekday];
        }
    }

    /** All beginnings and ends of waiting, in their order. */
    private static final class Journal {
        private static final int ROOM = 1024;
        final int[] who = new int[ROOM];
        /** NONE in a row that tells the end of a waiting. */
        final int[] skill = new int[ROOM];
        final int[] priority = new int[ROOM];
        final int[] when = new int[ROOM];
        int size;
        /** Behind a replay, the row of each call that tells for what it waits; NONE if it does not. */
        final int[] open = new int[CALLS];

        void write(int call, int forSkill, int withPriority, int since) {
            if (size < ROOM) {
                who[size] = call;
                skill[size] = forSkill;
                priority[size] = withPriority;
                when[size] = since;
                size++;
            }
        }

        /**
         * A waiting that ceased tells nothing of any place from then on, so its rows make room for new ones.
         * Half of the room is far more than one tick or one call of the face can write.
         */
        void strikeCeased() {
            if (size < ROOM / 2) {
                return;
            }
            replay();
            int kept = 0;
            for (int row = 0; row < size && row < ROOM; row++) {
                int call = who[row];
                if (call >= 0 && call < CALLS && open[call] == row && kept <= row) {
                    who[kept] = call;
                    skill[kept] = skill[row];
                    priority[kept] = priority[row];
                    when[kept] = when[row];
                    kept++;
                }
            }
            size = kept;
        }

        private void replay() {
            Arrays.fill(open, NONE);
            for (int row = 0; row < size && row < ROOM; row++) {
                int call = who[row];
                if (call >= 0 && call < CALLS) {
                    open[call] = skill[row] == NONE ? NONE : row;
                }
            }
        }

        int placeAt(int call, int now) {
            if (call < 0 || call >= CALLS) {
                return NONE;
            }
            replay();
            int own = open[call];
            if (own < 0 || own >= ROOM) {
                return NONE;
            }
            int score = scoreOf(priority[own], now - when[own]);
            int place = 0;
            for (int other = 0; other < CALLS; other++) {
                int row = open[other];
                boolean rivals = row >= 0 && row < ROOM && skill[row] == skill[own];
                if (rivals && isAhead(scoreOf(priority[row], now - when[row]), other, score, call)) {
                    place++;
                }
            }
            return place;
        }
    }
}
