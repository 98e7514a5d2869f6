/** Promise 4. */
public final class PlanTest {
    public static void main(String[] args) {
        planned();
        refused();
        timesFromNowOn();
        atTheEndOfTime();
        spans();
        whoKeepsAPlace();
        refusedTakesNoPlace();
        states();
        Check.finish();
    }

    private static void planned() {
        InspectSteps x = new InspectSteps();
        x.inspection(0, 0, 5);
        Check.due("plan", 1, x.plan(0, 3, 0, 100000));
        Check.due("state", 1, x.look(0, 2));
        Check.due("place", 3, x.look(0, 4));
        Check.due("from", 0, x.look(0, 5));
        Check.due("to", 100000, x.look(0, 6));
        Check.due("without a person", -1, x.look(0, 7));
    }

    private static void refused() {
        InspectSteps x = new InspectSteps();
        Check.bad("no inspection yet", () -> x.plan(0, 0, 1, 2));
        x.inspection(0, 0, 5);
        for (int wrong : new int[] {-1, 1, Scene.LOW, Scene.HIGH}) {
            Check.bad("inspection " + wrong, () -> x.plan(wrong, 0, 1, 2));
        }
        for (int wrong : new int[] {-1, 4, Scene.LOW, Scene.HIGH}) {
            Check.bad("place " + wrong, () -> x.plan(0, wrong, 1, 2));
        }
        Check.bad("from before all times", () -> x.plan(0, 0, -1, 2));
        Check.bad("to behind all times", () -> x.plan(0, 0, 1, 100001));
        Check.bad("both behind", () -> x.plan(0, 0, 100001, 100002));
        Check.bad("the same time", () -> x.plan(0, 0, 5, 5));
        Check.bad("not in order", () -> x.plan(0, 0, 6, 5));
        Check.bad("far off", () -> x.plan(0, 0, Scene.LOW, Scene.HIGH));
        Check.due("still asked", 0, x.look(0, 2));
        x.plan(0, 0, 1, 2);
        Check.bad("an exception comes before a refusal", () -> x.plan(0, 0, 5, 5));
    }

    private static void timesFromNowOn() {
        InspectSteps x = new InspectSteps();
        x.tick(10);
        x.inspection(0, 0, 20);
        Check.bad("from before NOW", () -> x.plan(0, 0, 9, 20));
        Check.bad("both before NOW", () -> x.plan(0, 0, 8, 9));
        Check.due("from NOW", 1, x.plan(0, 0, 10, 11));
        Check.due("no time is told as NOW", 10, x.count(2));
    }

    private static void spans() {
        int[][] rows = {
            {10, 20, 0}, {10, 11, 0}, {19, 20, 0}, {12, 15, 0}, {5, 25, 0}, {5, 11, 0}, {19, 30, 0},
            {5, 20, 0}, {10, 30, 0}, {0, 10, 1}, {20, 30, 1}, {0, 9, 1}, {21, 22, 1}};
        for (int[] row : rows) {
            InspectSteps x = new InspectSteps();
            x.inspection(0, 0, 5);
            x.inspection(1, 1, 5);
            x.plan(0, 2, 10, 20);
            Check.due("plan " + row[0] + " " + row[1], row[2], x.plan(1, 2, row[0], row[1]));
            Check.due("its state", row[2], x.look(1, 2));
            if (row[2] == 0) {
                Check.due("without a place", -1, x.look(1, 4));
                Check.due("at another place", 1, x.plan(1, 1, row[0], row[1]));
            }
        }
    }

    private static void whoKeepsAPlace() {
        InspectSteps x = Scene.allRights();
        for (int i = 0; i < 3; i++) {
            x.inspection(i, 0, 5);
        }
        x.plan(0, 0, 0, 10);
        x.begin(0, 0);
        Check.due("a begun one keeps it", 0, x.plan(1, 0, 5, 15));
        x.end(0, 0, false);
        Check.due("a failed one does not", 1, x.plan(1, 0, 5, 15));
        Check.due("the failed one has it no more", 0, x.plan(0, 0, 0, 10));
        x.giveUp(1);
        Check.due("a given up one does not", 1, x.plan(2, 0, 5, 15));
        x.tick(5);
        x.begin(2, 0);
        x.end(2, 0, true);
        Check.due("a done one does not", 1, x.plan(0, 0, 5, 15));
        x.tick(12);
        x.inspection(0, 0, 20);
        Check.due("one that was not begun in time does", 0, x.plan(3, 0, 14, 16));
    }

    private static void states() {
        InspectSteps x = Scene.allRights();
        x.inspection(0, 0, 5);
        x.plan(0, 0, 0, 10);
        Check.due("planned already", 0, x.plan(0, 1, 20, 30));
        Check.due("its place stays", 0, x.look(0, 4));
        Check.due("its time stays", 10, x.look(0, 6));
        x.begin(0, 4);
        Check.due("begun", 0, x.plan(0, 1, 20, 30));
        x.end(0, 4, false);
        Check.due("failed, it may be again", 1, x.plan(0, 1, 20, 30));
        Check.due("state", 1, x.look(0, 2));
        Check.due("place", 1, x.look(0, 4));
        Check.due("from", 20, x.look(0, 5));
        Check.due("who did it", 4, x.look(0, 7));
        x.tick(20);
        x.begin(0, 4);
        x.end(0, 4, true);
        Check.due("done", 0, x.plan(0, 1, 40, 50));
        x.inspection(0, 0, 50);
        x.giveUp(1);
        Check.due("given up", 0, x.plan(1, 1, 40, 50));
    }

    private static void atTheEndOfTime() {
        InspectSteps x = new InspectSteps();
        x.inspection(0, 0, 5);
        x.inspection(0, 0, 5);
        x.tick(99999);
        Check.due("the last span", 1, x.plan(0, 0, 99999, 100000));
        x.tick(100000);
        Check.bad("from before NOW", () -> x.plan(1, 1, 99999, 100000));
        Check.bad("no span is left", () -> x.plan(1, 1, 100000, 100000));
        Check.bad("to behind the last time", () -> x.plan(1, 1, 100000, 100001));
    }

    private static void refusedTakesNoPlace() {
        InspectSteps x = new InspectSteps();
        for (int i = 0; i < 3; i++) {
            x.inspection(0, 0, 5);
        }
        x.plan(0, 0, 10, 20);
        Check.due("planned already", 0, x.plan(0, 1, 10, 20));
        Check.bad("not in order", () -> x.plan(2, 1, 20, 10));
        Check.due("the place is free", 1, x.plan(1, 1, 10, 20));
        Check.due("taken", 0, x.plan(2, 1, 10, 20));
        Check.due("still asked", 0, x.look(2, 2));
        Check.due("the first one's place is still its own", 0, x.plan(2, 0, 19, 21));
    }
}
