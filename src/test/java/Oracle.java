import java.util.ArrayDeque;
import java.util.ArrayList;
import java.util.Deque;
import java.util.HashMap;
import java.util.List;
import java.util.Map;

/**
 * The document once more, held in another way: rows of digits are texts, and every span of time is counted
 * tick by tick instead of being kept as the time of its end.
 */
final class Oracle {
    private static final class Told {
        String kind = "";
        int[] with = {};
        final Map<String, Integer> keys = new HashMap<>();
        Integer leaving;
        int wait = 10, gap = 3, tries = 2, failing = -1;
    }

    private static final class Caller {
        int does = Menuline.IN_FLOW;
        int over = -1;
        int at = -1;
        int number;
        int quiet;
        String row = "";
        int misses;
        Deque<Integer> stack = new ArrayDeque<>();
        boolean claims;
        int skill, priority, age;
        int pause, vain;
    }

    private static final class Agent {
        int does = Menuline.OFF;
        int skills, spell, wrap = 5, left;
        Caller with;
    }

    private final Told[] told = new Told[30];
    private final List<Caller> callers = new ArrayList<>();
    private final Agent[] agents = new Agent[6];
    private final int[][] hours = new int[7][];
    private final List<Integer> holidays = new ArrayList<>();
    private final Map<String, Integer> ways = new HashMap<>();
    private final Map<Integer, Integer> begun = new HashMap<>();
    private int time;

    Oracle() {
        for (int i = 0; i < 30; i++) {
            told[i] = new Told();
        }
        for (int i = 0; i < 6; i++) {
            agents[i] = new Agent();
        }
        for (int i = 0; i < 7; i++) {
            hours[i] = i < 5 ? new int[] {80, 180} : new int[] {0, 0};
        }
    }

    // ---- what is refused

    private static void index(boolean fine) {
        if (!fine) {
            throw new IndexOutOfBoundsException();
        }
    }

    private static void argument(boolean fine) {
        if (!fine) {
            throw new IllegalArgumentException();
        }
    }

    private static void state(boolean fine) {
        if (!fine) {
            throw new IllegalStateException();
        }
    }

    private static boolean in(int value, int least, int most) {
        return least <= value && value <= most;
    }

    private boolean allOver() {
        return callers.stream().allMatch(c -> c.does == Menuline.OVER);
    }

    private Caller caller(int call) {
        index(in(call, 0, callers.size() - 1));
        return callers.get(call);
    }

    private Agent someone(int agent) {
        index(in(agent, 0, 5));
        return agents[agent];
    }

    // ---- nodes

    private Told tell(int node, String kind, int... with) {
        state(allOver());
        Told fresh = new Told();
        fresh.kind = kind;
        fresh.with = with;
        told[node] = fresh;
        return fresh;
    }

    private static void nodes(int node, int... targets) {
        index(in(node, 0, 29));
        for (int target : targets) {
            index(in(target, -1, 29));
        }
    }

    void say(int node, int ticks, int next) {
        nodes(node, next);
        argument(in(ticks, 1, 60));
        tell(node, "SAY", ticks, next);
    }

    void menu(int node) {
        nodes(node);
        tell(node, "MENU");
    }

    int key(int node, int key, int target) {
        nodes(node, target);
        String text = Integer.toString(key);
        argument(text.startsWith("1") && in(text.length(), 2, 4));
        state(allOver() && told[node].kind.equals("MENU"));
        Map<String, Integer> keys = told[node].keys;
        state(keys.containsKey(text.substring(1)) || keys.size() < 10);
        keys.put(text.substring(1), target);
        return keys.size();
    }

    void input(int node, int least, int most, int next) {
        nodes(node, next);
        argument(in(least, 1, 6) && in(most, least, 6));
        tell(node, "INPUT", least, most, next);
    }

    void times(int node, int wait, int gap, int tries, int failing) {
        nodes(node, failing);
        argument(in(wait, 1, 60) && in(gap, 1, 20) && in(tries, 1, 5));
        Told one = told[node];
        state(allOver() && (one.kind.equals("MENU") || one.kind.equals("INPUT")));
        one.wait = wait;
        one.gap = gap;
        one.tries = tries;
        one.failing = failing;
    }

    void branch(int node, int what, int a, int b, int yes, int no) {
        nodes(node, yes, no);
        argument(in(what, 0, 4) && in(b, 0, 60));
        argument(in(a, 0, new int[] {999999, 999999, 5, 6, 5}[what]));
        tell(node, "BRANCH", what, a, b, yes, no);
    }

    void sub(int node, int target, int back) {
        nodes(node, target, back);
        tell(node, "SUB", target, back);
    }

    void back(int node) {
        nodes(node);
        tell(node, "BACK");
    }

    void queue(int node, int skill, int priority, int most, int cap, int overflow) {
        nodes(node, overflow);
        argument(in(skill, 0, 5) && in(priority, 0, 9) && in(most, 1, 500) && in(cap, 1, 30));
        tell(node, "QUEUE", skill, priority, most, cap, overflow);
    }

    void leaving(int node, int target) {
        nodes(node, target);
        state(allOver() && told[node].kind.equals("QUEUE"));
        told[node].leaving = target;
    }

    void callback(int node) {
        nodes(node);
        tell(node, "CALLBACK");
    }

    // ---- hours

    void hours(int weekday, int from, int to) {
        argument(in(weekday, 0, 6) && in(from, 0, 240) && in(to, from, 240));
        hours[weekday] = new int[] {from, to};
    }

    boolean holiday(int day, boolean is) {
        argument(in(day, 0, 83));
        boolean was = holidays.remove((Integer) day);
        if (is) {
            holidays.add(day);
        }
        return was;
    }

    boolean isOpen() {
        int[] today = hours[time / 240 % 7];
        return !holidays.contains(time / 240) && today[0] <= time % 240 && time % 240 < today[1];
    }

    // ---- calls

    int call(int node) {
        nodes(node);
        state(callers.size() < 60);
        callers.add(new Caller());
        fromOutside(callers.get(callers.size() - 1), node);
        return callers.size() - 1;
    }

    private void fromOutside(Caller c, int node) {
        begun.merge(node, 1, Integer::sum);
        c.at = -1;
        come(c, node, 1);
        take();
    }

    int press(int call, int key) {
        Caller c = caller(call);
        argument(in(key, 0, 11));
        state(c.does == Menuline.IN_FLOW || c.does == Menuline.WAITING);
        Told here = told[c.at];
        if (here.kind.equals("QUEUE") && key == 1 && here.leaving != null) {
            goOn(c, here.leaving);
        } else if (here.kind.equals("MENU") || here.kind.equals("INPUT")) {
            tellDigit(c, here, key);
        }
        take();
        return c.at;
    }

    private void tellDigit(Caller c, Told here, int key) {
        c.quiet = 0;
        if (key == 10) {
            c.row = "";
        } else if (key == 11) {
            rowDone(c, here);
        } else {
            c.row += key;
            boolean more = here.kind.equals("INPUT") ? c.row.length() < here.with[1]
                    : here.keys.keySet().stream().anyMatch(k -> k.startsWith(c.row) && !k.equals(c.row));
            if (!more) {
                rowDone(c, here);
            }
        }
    }

    private void rowDone(Caller c, Told here) {
        if (here.kind.equals("MENU") && here.keys.containsKey(c.row)) {
            goOn(c, here.keys.get(c.row));
        } else if (here.kind.equals("INPUT") && c.row.length() >= here.with[0]) {
            c.number = Integer.parseInt(c.row);
            goOn(c, here.with[2]);
        } else {
            c.misses++;
            c.row = "";
            c.quiet = 0;
            if (c.misses == here.tries) {
                goOn(c, here.failing);
            }
        }
    }

    int hang(int call) {
        Caller c = caller(call);
        state(c.does != Menuline.OVER);
        int did = c.does;
        part(c);
        over(c, Menuline.HUNG);
        take();
        return did;
    }

    int pick(int call) {
        Caller c = caller(call);
        state(c.does == Menuline.RINGING);
        c.does = Menuline.TALKING;
        for (int i = 0; i < 6; i++) {
            if (agents[i].with == c) {
                agents[i].does = Menuline.BUSY;
                return i;
            }
        }
        throw new AssertionError("nobody calls");
    }

    // ---- agents

    int signOn(int agent, int skills) {
        Agent a = someone(agent);
        argument(in(skills, 1, 63));
        state(a.with == null);
        a.skills = skills;
        if (a.does == Menuline.OFF) {
            ready(a);
        }
        take();
        return callOf(agent);
    }

    int signOff(int agent) {
        Agent a = someone(agent);
        state(a.with == null);
        int did = a.does;
        a.does = Menuline.OFF;
        return did;
    }

    int wrap(int agent, int ticks) {
        Agent a = someone(agent);
        argument(in(ticks, 0, 30));
        int before = a.wrap;
        a.wrap = ticks;
        return before;
    }

    int finish(int agent) {
        Agent a = someone(agent);
        state(a.does == Menuline.BUSY);
        Caller c = a.with;
        part(c);
        over(c, Menuline.DONE);
        take();
        return callers.indexOf(c);
    }

    int transfer(int agent, int node) {
        Agent a = someone(agent);
        nodes(node);
        state(a.does == Menuline.BUSY);
        Caller c = a.with;
        part(c);
        c.stack.clear();
        c.claims = false;
        fromOutside(c, node);
        return callers.indexOf(c);
    }

    int pass(int ticks) {
        argument(in(ticks, 1, 100));
        state(time + ticks <= 20000);
        for (int i = 0; i < ticks; i++) {
            tick();
        }
        return time;
    }

    private void tick() {
        time++;
        for (Caller c : callers) {
            c.quiet++;
            c.age++;
            c.pause--;
        }
        for (Agent a : agents) {
            a.spell++;
            a.left--;
        }
        for (Caller c : callers) {
            callTick(c);
        }
        for (Agent a : agents) {
            if (a.does == Menuline.WRAPPING && a.left == 0) {
                ready(a);
            }
        }
        take();
    }

    private void callTick(Caller c) {
        if (c.does == Menuline.RINGING && c.quiet == 6) {
            part(c);
            c.vain++;
            c.pause = 30;
            c.does = Menuline.AWAY;
            if (c.vain == 2) {
                over(c, Menuline.LOST);
            }
            return;
        }
        if (c.does != Menuline.IN_FLOW && c.does != Menuline.WAITING) {
            return;
        }
        Told here = told[c.at];
        switch (here.kind) {
            case "SAY":
                if (c.quiet == here.with[0]) {
                    goOn(c, here.with[1]);
                }
                break;
            case "QUEUE":
                if (c.age == here.with[2]) {
                    goOn(c, here.with[4]);
                }
                break;
            default:
                if (c.quiet == (c.row.isEmpty() ? here.wait : here.gap)) {
                    rowDone(c, here);
                }
                break;
        }
    }

    // ---- how a call goes on

    private void goOn(Caller c, int to) {
        c.does = Menuline.IN_FLOW;
        come(c, to, 1);
    }

    private void come(Caller c, int to, int nth) {
        c.does = Menuline.IN_FLOW;
        if (to != -1 && nth == 21) {
            over(c, Menuline.LOOP);
            return;
        }
        if (c.at != -1) {
            ways.merge(c.at + ">" + to, 1, Integer::sum);
        }
        if (to == -1) {
            over(c, Menuline.ENDED);
            return;
        }
        c.at = to;
        c.quiet = 0;
        Told here = told[to];
        int[] with = here.with;
        switch (here.kind) {
            case "SAY":
                return;
            case "MENU":
            case "INPUT":
                c.row = "";
                c.misses = 0;
                return;
            case "BRANCH":
                come(c, so(c, with) ? with[3] : with[4], nth + 1);
                return;
            case "SUB":
                if (c.stack.size() == 4) {
                    over(c, Menuline.DEEP);
                    return;
                }
                c.stack.push(with[1]);
                come(c, with[0], nth + 1);
                return;
            case "BACK":
                come(c, c.stack.isEmpty() ? -1 : c.stack.pop(), nth + 1);
                return;
            case "QUEUE":
                int already = waiting(with[0]);
                c.claims = true;
                c.skill = with[0];
                c.priority = with[1];
                c.age = 0;
                if (already >= with[3]) {
                    come(c, with[4], nth + 1);
                } else {
                    c.does = Menuline.WAITING;
                }
                return;
            case "CALLBACK":
                if (!c.claims) {
                    over(c, Menuline.ENDED);
                } else {
                    c.does = Menuline.AWAY;
                    c.at = -1;
                    c.pause = 0;
                    c.vain = 0;
                }
                return;
            default:
                come(c, -1, nth + 1);
        }
    }

    private boolean so(Caller c, int[] with) {
        int a = with[1];
        switch (with[0]) {
            case 0:
                return isOpen();
            case 1:
                return c.number >= a;
            case 2:
                return waiting(a) >= with[2];
            case 3:
                return time / 240 % 7 == a;
            default:
                for (Agent agent : agents) {
                    if (agent.does == Menuline.READY && has(agent, a)) {
                        return true;
                    }
                }
                return false;
        }
    }

    private static boolean has(Agent agent, int skill) {
        return agent.skills / (1 << skill) % 2 == 1;
    }

    private static void over(Caller c, int how) {
        c.does = Menuline.OVER;
        c.over = how;
        c.at = -1;
    }

    private void part(Caller c) {
        for (Agent a : agents) {
            if (a.with == c) {
                a.with = null;
                if (c.does == Menuline.TALKING && a.wrap > 0) {
                    a.does = Menuline.WRAPPING;
                    a.left = a.wrap;
                } else {
                    ready(a);
                }
            }
        }
    }

    private static void ready(Agent a) {
        a.does = Menuline.READY;
        a.spell = 0;
    }

    // ---- taking

    private void take() {
        while (true) {
            Agent taker = null;
            Caller taken = null;
            for (Agent a : agents) {
                if (a.does == Menuline.READY && (taker == null || a.spell > taker.spell)) {
                    Caller best = bestFor(a);
                    if (best != null) {
                        taker = a;
                        taken = best;
                    }
                }
            }
            if (taker == null) {
                return;
            }
            boolean talks = taken.does == Menuline.WAITING;
            taker.with = taken;
            taker.does = talks ? Menuline.BUSY : Menuline.CALLING;
            taken.does = talks ? Menuline.TALKING : Menuline.RINGING;
            taken.quiet = 0;
            taken.at = -1;
        }
    }

    private Caller bestFor(Agent a) {
        Caller best = null;
        for (Caller c : callers) {
            boolean takeable = waits(c) && (c.does == Menuline.WAITING || c.pause <= 0) && has(a, c.skill);
            if (takeable && (best == null || score(c) > score(best))) {
                best = c;
            }
        }
        return best;
    }

    private static boolean waits(Caller c) {
        return c.does == Menuline.WAITING || c.does == Menuline.AWAY;
    }

    private static int score(Caller c) {
        return (c.priority + 1) * (c.age + 10);
    }

    // ---- what is so

    int calls() {
        return callers.size();
    }

    int state(int call) {
        return caller(call).does;
    }

    int end(int call) {
        return caller(call).over;
    }

    int nodeOf(int call) {
        return caller(call).at;
    }

    int numberOf(int call) {
        return caller(call).number;
    }

    int placeOf(int call) {
        Caller c = caller(call);
        if (!waits(c)) {
            return -1;
        }
        List<Caller> all = new ArrayList<>(callers);
        all.removeIf(o -> !waits(o) || o.skill != c.skill);
        all.sort((p, q) -> score(q) - score(p));
        return all.indexOf(c);
    }

    int placeByReplay(int call) {
        return placeOf(call);
    }

    int waiting(int skill) {
        argument(in(skill, 0, 5));
        return (int) callers.stream().filter(c -> waits(c) && c.skill == skill).count();
    }

    int agent(int agent) {
        return someone(agent).does;
    }

    int callOf(int agent) {
        return callers.indexOf(someone(agent).with);
    }

    int ways(int from, int to) {
        nodes(from, to);
        return ways.getOrDefault(from + ">" + to, 0);
    }

    int begun(int node) {
        nodes(node);
        return begun.getOrDefault(node, 0);
    }
}
