/** Promises 13 to 15: opening hours, holidays, and whether the hours are open now. */
public final class HoursTest {
    private final Due due = new Due("HoursTest");

    public static void main(String[] args) {
        HoursTest test = new HoursTest();
        test.atFirst();
        test.hours();
        test.hoursRefused();
        test.holidays();
        test.lastDay();
        test.due.close();
    }

    private void atFirst() {
        Menuline x = new Menuline();
        int time = 0;
        for (int day = 0; day < 15; day++) {
            boolean open = day % 7 < 5;
            int[] ticks = {0, 79, 80, 81, 179, 180, 239};
            for (int tick : ticks) {
                time = Due.passTo(x, time, day * 240 + tick);
                due.is("open on the day " + day + " at " + tick, x.isOpen(), open && tick >= 80 && tick < 180);
            }
        }
    }

    private void hours() {
        Menuline x = new Menuline();
        x.hours(0, 0, 240);
        due.is("from 0 on", x.isOpen(), true);
        x.hours(0, 0, 0);
        due.is("from 0 to 0", x.isOpen(), false);
        x.hours(0, 0, 1);
        due.is("from 0 to 1 at 0", x.isOpen(), true);
        x.pass(1);
        due.is("from 0 to 1 at 1", x.isOpen(), false);
        x.hours(0, 1, 240);
        due.is("from 1 at 1", x.isOpen(), true);
        x.hours(0, 240, 240);
        due.is("from 240 to 240", x.isOpen(), false);
        x.hours(0, 0, 240);
        x.hours(1, 100, 101);
        x.hours(6, 0, 240);
        int time = Due.passTo(x, 1, 239);
        due.is("at the last tick of the day", x.isOpen(), true);
        time = Due.passTo(x, time, 240);
        due.is("on the next day", x.isOpen(), false);
        time = Due.passTo(x, time, 340);
        due.is("at its one open tick", x.isOpen(), true);
        time = Due.passTo(x, time, 341);
        due.is("behind it", x.isOpen(), false);
        time = Due.passTo(x, time, 6 * 240);
        due.is("on the weekday 6", x.isOpen(), true);
        time = Due.passTo(x, time, 8 * 240 + 100);
        due.is("on the weekday 1 again", x.isOpen(), true);
        x.say(0, 60, Menuline.NONE);
        x.call(0);
        x.hours(1, 0, 0);
        due.is("changed while a call is there", x.isOpen(), false);
    }

    private void hoursRefused() {
        Menuline x = new Menuline();
        x.pass(100);
        int[][] wrong = {{-1, 0, 0}, {7, 0, 0}, {0, -1, 0}, {0, 241, 241}, {0, 5, 4}, {0, 0, 241}, {0, 0, -1},
            {Integer.MIN_VALUE, 0, 0}, {0, Integer.MIN_VALUE, 0}, {0, 0, Integer.MAX_VALUE}};
        for (int[] n : wrong) {
            due.refused("hours " + n[0] + " " + n[1] + " " + n[2], x, Due.ARGUMENT, () -> x.hours(n[0], n[1], n[2]));
        }
    }

    private void holidays() {
        Menuline x = new Menuline();
        x.hours(0, 0, 240);
        x.hours(1, 0, 240);
        due.is("a holiday", x.holiday(0, true), false);
        due.is("nothing is open", x.isOpen(), false);
        due.is("it was one", x.holiday(0, true), true);
        due.is("not any more", x.holiday(0, false), true);
        due.is("open again", x.isOpen(), true);
        due.is("it was none", x.holiday(0, false), false);
        due.is("another day", x.holiday(1, true), false);
        due.is("today is open", x.isOpen(), true);
        Due.passTo(x, 0, 239);
        due.is("up to its end", x.isOpen(), true);
        x.pass(1);
        due.is("the holiday begins", x.isOpen(), false);
        x.holiday(1, false);
        due.is("and is none any more", x.isOpen(), true);
        x.holiday(8, true);
        due.is("the same weekday later", x.isOpen(), true);
        for (int day : new int[] {-1, 84, Integer.MIN_VALUE, Integer.MAX_VALUE}) {
            due.refused("holiday " + day, x, Due.ARGUMENT, () -> x.holiday(day, true));
        }
    }

    private void lastDay() {
        Menuline x = new Menuline();
        for (int weekday = 0; weekday < 7; weekday++) {
            x.hours(weekday, 0, 240);
        }
        due.is("the last day", x.holiday(83, true), false);
        due.is("the last time", Due.passTo(x, 0, 20000), 20000);
        due.is("on the last day", x.isOpen(), false);
        due.is("it was one", x.holiday(83, false), true);
        due.is("open on the last day", x.isOpen(), true);
    }
}
