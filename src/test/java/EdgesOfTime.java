/** The terms of time, and promises 13 to 15 and 25, sentence by sentence. */
final class EdgesOfTime {
    private static final int LAST = 20000;
    private final Due due;

    EdgesOfTime(Due due) {
        this.due = due;
    }

    void run() {
        allOfIt();
        ticks();
        days();
        hoursAtFirst();
        holidaysCloseAll();
        hoursNumbers();
        hoursRefused();
        holiday();
        isOpen();
        pass();
        passRefused();
        atMost512Calls();
    }

    private static Menuline alwaysOpen() {
        Menuline x = new Menuline();
        for (int weekday = 0; weekday < 7; weekday++) {
            x.hours(weekday, 0, 240);
        }
        return x;
    }

    private static Menuline openOn(int weekday) {
        Menuline x = new Menuline();
        for (int other = 0; other < 7; other++) {
            x.hours(other, 0, other == weekday ? 240 : 0);
        }
        return x;
    }

    // ---- terms

    /** The example of README.md. */
    private void allOfIt() {
        due.sentence(0, "A telephone answering system: flows as graphs of nodes with menus whose keys may begin one another");
        Menuline line = new Menuline();
        line.menu(0);
        line.key(0, 11, 1);
        line.queue(1, 2, 5, 100, 10, 2);
        line.callback(2);
        line.signOn(0, 1 << 2);
        int call = line.call(0);
        due.is("taken at once", line.press(call, 1), Menuline.NONE);
        due.is("twenty ticks", line.pass(20), 20);
        due.is("the talk", line.finish(0), call);
        due.is("the way that was taken", line.ways(0, 1), 1);
    }

    private void ticks() {
        due.sentence(0, "Time goes by ticks, from 0 to 20000; a day has 240 ticks, the day d those from 240 d on; its weekday "
                + "is d % 7.");
        Menuline x = alwaysOpen();
        due.is("from 0 on", x.pass(1), 1);
        due.is("to the last one", Due.passTo(x, 1, LAST), LAST);
        due.refused("one more", x, Due.STATE, () -> x.pass(1));
        due.is("the day 83 is the last one", x.holiday(83, true), false);
        due.is("and it is now", x.isOpen(), false);
        x.holiday(83, false);
        x.hours(83 % 7, 0, 0);
        due.is("its weekday is 6", x.isOpen(), false);
        x.hours(6, LAST - 83 * 240, LAST - 83 * 240 + 1);
        due.is("at its tick 80", x.isOpen(), true);
    }

    private void days() {
        due.sentence(0, "a day has 240 ticks, the day d those from 240 d on; its weekday is d % 7.");
        for (int weekday = 0; weekday < 7; weekday++) {
            Menuline x = openOn(weekday);
            int time = 0;
            for (int day = 0; day < 16; day++) {
                time = Due.passTo(x, time, day * 240);
                due.is("the first tick of the day " + day, x.isOpen(), day % 7 == weekday);
                time = Due.passTo(x, time, day * 240 + 239);
                due.is("the last tick of the day " + day, x.isOpen(), day % 7 == weekday);
            }
        }
        Menuline x = openOn(6);
        int time = Due.passTo(x, 0, 83 * 240 - 1);
        due.is("the last tick of the day 82", x.isOpen(), false);
        Due.passTo(x, time, 83 * 240);
        due.is("the first tick of the day 83", x.isOpen(), true);
    }

    private void hoursAtFirst() {
        due.sentence(0, "On each weekday there are opening hours, from one tick of the day up to another one, not included: at "
                + "first 80 to 180 on the weekdays 0 to 4, none on 5 and 6.");
        Menuline x = new Menuline();
        int time = 0;
        for (int day = 0; day < 9; day++) {
            for (int tick : new int[] {0, 1, 79, 80, 81, 178, 179, 180, 181, 239}) {
                time = Due.passTo(x, time, day * 240 + tick);
                due.is("on the day " + day + " at " + tick, x.isOpen(), day % 7 < 5 && tick >= 80 && tick < 180);
            }
        }
        Menuline y = new Menuline();
        time = Due.passTo(y, 0, 5 * 240);
        for (int tick = 0; tick < 480; tick++) {
            due.is("none at the tick " + tick + " of the days 5 and 6", y.isOpen(), false);
            y.pass(1);
        }
    }

    private void holidaysCloseAll() {
        due.sentence(0, "Days can be holidays, on which nothing is open.");
        Menuline x = alwaysOpen();
        x.holiday(1, true);
        int time = Due.passTo(x, 0, 239);
        due.is("the tick ahead of it", x.isOpen(), true);
        for (int tick = 240; tick < 480; tick++) {
            time = Due.passTo(x, time, tick);
            due.is("at the tick " + tick, x.isOpen(), false);
        }
        Due.passTo(x, time, 480);
        due.is("the tick behind it", x.isOpen(), true);
        Menuline y = new Menuline();
        y.branch(0, Menuline.OPEN, 0, 0, 1, 2);
        y.holiday(0, true);
        y.pass(80);
        y.call(0);
        due.is("a branch on it", y.ways(0, 2), 1);
        y.holiday(0, false);
        y.call(0);
        due.is("a branch when it is none any more", y.ways(0, 1), 1);
    }

    // ---- 13

    private void hoursNumbers() {
        due.sentence(13, "Sets the opening hours of a weekday.");
        int[][] hours = {{0, 0}, {0, 1}, {0, 240}, {1, 240}, {120, 120}, {120, 121}, {239, 240}, {240, 240}, {0, 239}};
        for (int[] from : hours) {
            Menuline x = new Menuline();
            x.hours(0, from[0], from[1]);
            for (int tick = 0; tick < 240; tick++) {
                due.is(from[0] + " to " + from[1] + " at " + tick, x.isOpen(), from[0] <= tick && tick < from[1]);
                x.pass(1);
            }
            due.is("the next day is as it was", x.isOpen(), false);
            x.pass(80);
            due.is("the next day is as it was", x.isOpen(), true);
        }
        for (int state = Menuline.IN_FLOW; state <= Menuline.OVER; state++) {
            Menuline x = Scene.with(state);
            due.taken("while a call does " + state, () -> x.hours(0, 0, 240));
            due.is("open", x.isOpen(), true);
        }
    }

    private void hoursRefused() {
        due.sentence(13, "weekday: 0 to 6");
        due.range("weekday", Scene::quiet, 0, 6, Due.ARGUMENT, (x, n) -> x.hours(n, 0, 0));
        due.sentence(13, "from: 0 to 240");
        due.range("from", Scene::quiet, 0, 240, Due.ARGUMENT, (x, n) -> x.hours(0, n, 240));
        due.sentence(13, "to: from to 240");
        for (int from : new int[] {0, 1, 80, 239, 240}) {
            due.range("to, from " + from, Scene::quiet, from, 240, Due.ARGUMENT, (x, n) -> x.hours(0, from, n));
        }
        due.sentence(13, "Throws IllegalArgumentException if weekday, from or to is out of range");
        int[][] wrong = {{-1, 0, 0}, {7, 0, 0}, {0, -1, -1}, {0, -1, 0}, {0, 241, 241}, {0, 240, 239}, {0, 0, -1}, {0, 0, 241},
            {7, 241, 0}, {-1, -1, -1}};
        for (int[] n : wrong) {
            Menuline x = Scene.quiet();
            due.refused("hours " + n[0] + " " + n[1] + " " + n[2], x, Due.ARGUMENT, () -> x.hours(n[0], n[1], n[2]));
        }
    }

    // ---- 14, 15

    private void holiday() {
        due.sentence(14, "day: 0 to 83");
        due.range("day to true", Scene::quiet, 0, 83, Due.ARGUMENT, (x, n) -> x.holiday(n, true));
        due.sentence(14, "Throws IllegalArgumentException if day is out of range");
        due.range("day to false", Scene::quiet, 0, 83, Due.ARGUMENT, (x, n) -> x.holiday(n, false));
        due.sentence(14, "Makes a day a holiday, or not any more.");
        Menuline x = alwaysOpen();
        due.is("none at first", x.isOpen(), true);
        x.holiday(0, true);
        due.is("a holiday", x.isOpen(), false);
        x.holiday(0, true);
        due.is("still one", x.isOpen(), false);
        x.holiday(0, false);
        due.is("not any more", x.isOpen(), true);
        due.sentence(14, "Returns whether it was one.");
        for (int day = 0; day <= 83; day++) {
            due.is("at first " + day, x.holiday(day, true), false);
        }
        for (int day = 0; day <= 83; day++) {
            due.is("then " + day, x.holiday(day, day % 2 == 0), true);
        }
        for (int day = 0; day <= 83; day++) {
            due.is("and then " + day, x.holiday(day, false), day % 2 == 0);
            due.is("none " + day, x.holiday(day, false), false);
        }
    }

    private void isOpen() {
        due.sentence(15, "Tells whether the hours are open now.");
        Menuline x = new Menuline();
        due.is("at the time 0", x.isOpen(), false);
        x.hours(0, 0, 1);
        due.is("with hours from 0 on", x.isOpen(), true);
        x.pass(1);
        due.is("one tick later", x.isOpen(), false);
        x.hours(0, 1, 2);
        due.is("with hours from 1 on", x.isOpen(), true);
        Menuline y = alwaysOpen();
        Due.passTo(y, 0, LAST);
        due.is("at the last time", y.isOpen(), true);
    }

    // ---- 25

    private void pass() {
        due.sentence(25, "Lets ticks pass.");
        Menuline x = Scene.quiet();
        for (int call = 0; call < 60; call++) {
            x.call(Scene.SAY);
        }
        x.pass(59);
        due.is("all of them stay", x.state(0) + x.state(59), 0);
        x.pass(1);
        due.is("all of them go on", x.ways(Scene.SAY, Menuline.NONE), 60);
        due.sentence(25, "Returns the time then.");
        Menuline y = new Menuline();
        int time = 0;
        for (int ticks = 1; ticks <= 100; ticks++) {
            time += ticks;
            due.is("pass " + ticks, y.pass(ticks), time);
        }
        due.sentence(25, "ticks: 1 to 100");
        due.range("ticks", Scene::quiet, 1, 100, Due.ARGUMENT, Menuline::pass);
    }

    private void passRefused() {
        due.sentence(25, "Throws IllegalArgumentException if ticks is out of range");
        for (int state = Menuline.IN_FLOW; state <= Menuline.OVER; state++) {
            Menuline x = Scene.with(state);
            for (int ticks : new int[] {0, -1, 101, Integer.MIN_VALUE, Integer.MAX_VALUE}) {
                due.refused("pass " + ticks, x, Due.ARGUMENT, () -> x.pass(ticks));
            }
        }
        due.sentence(25, "Throws IllegalStateException if the time would be above 20000");
        for (int ahead : new int[] {0, 1, 2, 50, 99, 100}) {
            Menuline x = Scene.quiet();
            x.queue(20, 0, 0, 500, 30, 0);
            Due.passTo(x, 0, LAST - ahead);
            x.call(20);
            due.refused((ahead + 1) + " at " + ahead, x, ahead < 100 ? Due.STATE : Due.ARGUMENT, () -> x.pass(ahead + 1));
            due.refused("101", x, Due.ARGUMENT, () -> x.pass(101));
            if (ahead < 100) {
                due.refused("100 at " + ahead, x, Due.STATE, () -> x.pass(100));
            }
            if (ahead > 0) {
                due.is("up to the last one", x.pass(ahead), LAST);
            }
            due.refused("one more", x, Due.STATE, () -> x.pass(1));
            due.is("a call is taken all the same", x.call(Scene.BLANK), 1);
            due.is("nothing else goes by", x.state(0), Menuline.WAITING);
        }
    }

    private void atMost512Calls() {
        due.sentence(0, "An object is used for at most 512 calls after it has been made; what later calls answer is free.");
        Menuline x = new Menuline();
        x.say(0, 1, 1);
        x.say(1, 1, 0);
        x.call(0);
        for (int calls = 4; calls <= 510; calls++) {
            due.is("the call " + calls, x.pass(1), calls - 3);
        }
        due.is("the 511th call", x.ways(0, 1), 254);
        due.is("the 512th call", x.pass(100), 607);
    }
}
