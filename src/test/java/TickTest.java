/** Promise 15. */
public final class TickTest {
    public static void main(String[] args) {
        times();
        levels();
        byStates();
        severalInspections();
        asNowGoesOn();
        endedJustInTime();
        refusedPassesNothing();
        stepByStep();
        Check.finish();
    }

    private static void times() {
        InspectSteps x = new InspectSteps();
        Check.due("the same time", 0, x.tick(0));
        Check.bad("before all times", () -> x.tick(-1));
        Check.due("later", 0, x.tick(500));
        Check.due("NOW", 500, x.count(2));
        Check.bad("back", () -> x.tick(499));
        Check.due("the same time", 0, x.tick(500));
        for (int wrong : new int[] {100001, 0, Scene.LOW, Scene.HIGH}) {
            Check.bad("tick " + wrong, () -> x.tick(wrong));
        }
        Check.due("NOW", 500, x.count(2));
        Check.due("the last", 0, x.tick(100000));
        Check.due("NOW", 100000, x.count(2));
    }

    private static void levels() {
        int[][] rows = {
            {50, 0}, {51, 1}, {52, 1}, {150, 1}, {151, 2}, {250, 2}, {251, 3}, {351, 3}, {100000, 3}};
        InspectSteps slow = new InspectSteps();
        slow.inspection(0, 0, 50);
        int before = 0;
        for (int[] row : rows) {
            InspectSteps x = new InspectSteps();
            x.inspection(0, 0, 50);
            Check.due("at once to " + row[0], row[1], x.tick(row[0]));
            Check.due("level", row[1], x.look(0, 3));
            Check.due("no more at the same time", 0, x.tick(row[0]));
            Check.due("on to " + row[0], row[1] - before, slow.tick(row[0]));
            Check.due("level", row[1], slow.look(0, 3));
            before = row[1];
        }
        InspectSteps last = new InspectSteps();
        last.inspection(0, 0, 100000);
        Check.due("due at the end", 0, last.tick(100000));
        InspectSteps nearly = new InspectSteps();
        nearly.inspection(0, 0, 99999);
        Check.due("due before the end", 1, nearly.tick(100000));
    }

    private static void byStates() {
        InspectSteps x = Scene.allRights();
        x.inspection(0, 0, 10);
        for (int place = 0; place < 4; place++) {
            x.inspection(0, 0, 10);
            x.plan(1 + place, place, 0, 400);
        }
        x.begin(2, 0);
        x.begin(3, 0);
        x.end(3, 0, true);
        x.begin(4, 0);
        x.end(4, 0, false);
        x.inspection(0, 0, 10);
        x.giveUp(5);
        Check.due("asked, planned, begun, failed", 4, x.tick(11));
        int[] want = {1, 1, 1, 0, 1, 0};
        for (int i = 0; i < want.length; i++) {
            Check.due("level of " + i, want[i], x.look(i, 3));
        }
        x.end(2, 0, true);
        x.giveUp(0);
        Check.due("planned, failed", 2, x.tick(111));
        Check.due("the done one keeps its level", 1, x.look(2, 3));
        Check.due("the given up one too", 1, x.look(0, 3));
        x.plan(4, 3, 200, 300);
        Check.due("planned again its level goes on", 2, x.look(4, 3));
        Check.due("planned both", 2, x.tick(211));
        Check.due("level", 3, x.look(4, 3));
        Check.due("3 at most", 0, x.tick(311));
    }

    private static void severalInspections() {
        InspectSteps x = new InspectSteps();
        for (int i = 0; i < 30; i++) {
            x.inspection(i % 10, 0, i * 10);
        }
        Check.due("those before 50", 5, x.tick(50));
        Check.due("3 of each in all", 85, x.tick(5000));
    }

    /** The levels of a row of inspections, against time that goes by one at a time. */
    private static void stepByStep() {
        for (int step : new int[] {1, 3, 7, 50, 99, 100, 101, 250, 400}) {
            InspectSteps x = new InspectSteps();
            int[] dues = {0, 1, 98, 99, 100, 101, 102, 250};
            int[] levels = new int[dues.length];
            for (int i = 0; i < dues.length; i++) {
                x.inspection(0, 0, dues[i]);
            }
            for (int now = 0; now + step <= Math.min(800, 400 * step); now += step) {
                int passed = 0;
                for (int t = now + 1; t <= now + step; t++) {
                    for (int i = 0; i < dues.length; i++) {
                        if (t > dues[i] && (t - dues[i]) % 100 == 1 && levels[i] < 3) {
                            levels[i]++;
                            passed++;
                        }
                    }
                }
                Check.due("tick to " + (now + step), passed, x.tick(now + step));
            }
            for (int i = 0; i < dues.length; i++) {
                Check.due("level", levels[i], x.look(i, 3));
            }
        }
    }

    /** Asked for when it is late already in the day: only times behind NOW count. */
    private static void asNowGoesOn() {
        InspectSteps x = new InspectSteps();
        x.tick(500);
        x.inspection(0, 0, 500);
        Check.due("it is due NOW", 0, x.tick(500));
        Check.due("and late next", 1, x.tick(501));
        Check.due("not again yet", 0, x.tick(600));
        Check.due("a hundred behind", 1, x.tick(601));
        InspectSteps last = new InspectSteps();
        last.tick(99999);
        last.inspection(0, 0, 99999);
        last.inspection(0, 0, 100000);
        Check.due("at the end of time the first is late", 1, last.tick(100000));
        Check.due("level", 1, last.look(0, 3));
        Check.due("and the second is not", 0, last.look(1, 3));
    }

    /** What counts is the state at the very time that it would pass up. */
    private static void endedJustInTime() {
        for (int late = 0; late < 3; late++) {
            int time = 40 + 100 * late;
            InspectSteps x = Scene.allRights();
            for (int place = 0; place < 4; place++) {
                x.inspection(0, 0, 40);
                x.plan(place, place, 0, 1000);
                x.begin(place, 0);
            }
            Check.due("before", 4 * late, x.tick(time));
            x.end(0, 0, true);
            x.end(1, 0, false);
            x.giveUp(1);
            x.end(2, 0, false);
            Check.due("failed and begun pass up", 2, x.tick(time + 1));
            x.end(2, 0, true);
            x.end(3, 0, true);
            int[] want = {late, late, late + 1, late + 1};
            for (int i = 0; i < 4; i++) {
                Check.due("level of " + i, want[i], x.look(i, 3));
            }
        }
    }

    private static void refusedPassesNothing() {
        InspectSteps x = new InspectSteps();
        x.inspection(0, 0, 0);
        for (int wrong : new int[] {-1, 100001, Scene.LOW, Scene.HIGH}) {
            Check.bad("tick " + wrong, () -> x.tick(wrong));
        }
        Check.due("level", 0, x.look(0, 3));
        Check.due("NOW", 0, x.count(2));
        Check.due("all of it later", 3, x.tick(201));
    }
}
