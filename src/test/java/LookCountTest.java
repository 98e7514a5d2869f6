/** Promises 17 and 18. */
public final class LookCountTest {
    public static void main(String[] args) {
        lookThroughSteps();
        lookOutside();
        lookAtThirty();
        countOutside();
        countOfDeclarations();
        costs();
        Check.finish();
    }

    private static void lookedAs(String when, InspectSteps x, int... want) {
        for (int what = 0; what < want.length; what++) {
            Check.due(when + ", what " + what, want[what], x.look(1, what));
        }
    }

    private static void lookThroughSteps() {
        InspectSteps x = Scene.allRights();
        x.inspection(0, 0, 0);
        x.inspection(8, 4, 20);
        lookedAs("asked", x, 8, 4, 0, 0, -1, -1, -1, -1, 0);
        x.plan(1, 2, 5, 15);
        lookedAs("planned", x, 8, 4, 1, 0, 2, 5, 15, -1, 0);
        x.tick(6);
        x.begin(1, 7);
        x.sample(1, 31);
        x.sample(1, 32);
        lookedAs("begun", x, 8, 4, 2, 0, 2, 5, 15, 7, 2);
        x.tick(21);
        lookedAs("late", x, 8, 4, 2, 1, 2, 5, 15, 7, 2);
        x.end(1, 7, false);
        lookedAs("failed", x, 8, 4, 4, 1, -1, -1, -1, 7, 2);
        x.plan(1, 0, 21, 121);
        lookedAs("planned again", x, 8, 4, 1, 1, 0, 21, 121, 7, 2);
        x.begin(1, 0);
        x.sample(1, 33);
        lookedAs("begun again", x, 8, 4, 2, 1, 0, 21, 121, 0, 3);
        x.end(1, 0, true);
        lookedAs("done", x, 8, 4, 3, 1, -1, -1, -1, 0, 3);
        InspectSteps y = Scene.allRights();
        y.inspection(0, 0, 0);
        y.inspection(3, 1, 20);
        y.plan(1, 3, 0, 4);
        y.giveUp(1);
        lookedAs("given up", y, 3, 1, 5, 0, -1, -1, -1, -1, 0);
    }

    private static void lookOutside() {
        InspectSteps x = new InspectSteps();
        x.inspection(0, 0, 5);
        for (int wrong : new int[] {-1, 1, 30, Scene.LOW, Scene.HIGH}) {
            Check.outside("inspection " + wrong, () -> x.look(wrong, 0));
        }
        for (int wrong : new int[] {-1, 9, 10, Scene.LOW, Scene.HIGH}) {
            Check.outside("what " + wrong, () -> x.look(0, wrong));
        }
    }

    private static void countOutside() {
        InspectSteps x = new InspectSteps();
        for (int what = 3; what < 10; what++) {
            Check.due("what " + what, -1, x.count(what));
        }
        for (int wrong : new int[] {-1, -10, -19, -20, -41, 50, 51, 59, 60, 100, 110, Scene.LOW, Scene.HIGH}) {
            Check.due("what " + wrong, -1, x.count(wrong));
        }
    }

    private static void countOfDeclarations() {
        InspectSteps x = Scene.allRights();
        for (int d = 0; d < 10; d++) {
            int opening = Scene.begun(x, d, 3, 0);
            int taken = x.sample(opening, 700 + d);
            for (int m = 0; m < d % 5; m++) {
                x.declared(d, m, 5);
                x.result(taken, 700 + d, m, 10);
            }
            x.end(opening, 0, true);
            if (d % 2 == 0) {
                x.seal(d, 900 + d, 1, 2);
            }
            x.hold(d, d % 8, true);
            x.hold(d, 7 - d % 8, true);
        }
        for (int d = 0; d < 10; d++) {
            Check.due("seal of " + d, d % 2 == 0 ? 900 + d : -1, x.count(10 + d));
            Check.due("offices of " + d, 1 << d % 8 | 1 << 7 - d % 8, x.count(20 + d));
            Check.due("costs of " + d, 450, x.count(30 + d));
            Check.due("results of " + d, d % 5, x.count(40 + d));
            x.settle(d);
            Check.due("settled ones too", d % 5, x.count(40 + d));
        }
        Check.due("inspections", 10, x.count(0));
        Check.due("samples", 10, x.count(1));
    }

    private static void costs() {
        for (int kind = 0; kind < 5; kind++) {
            InspectSteps x = Scene.allRights();
            x.inspection(6, kind, 50);
            x.plan(0, 0, 0, 50);
            Check.due("planned", 0, x.count(36));
            for (int times = 1; times <= 3; times++) {
                x.begin(0, 0);
                Check.due("begun " + times + " times", times * 100 * (kind + 1), x.count(36));
                x.end(0, 0, false);
                x.plan(0, 0, 0, 50);
            }
            x.giveUp(0);
            Check.due("given up", 300 * (kind + 1), x.count(36));
            Check.due("another declaration", 0, x.count(30));
        }
    }

    private static void lookAtThirty() {
        InspectSteps x = new InspectSteps();
        for (int i = 0; i < 30; i++) {
            x.inspection(i % 10, i % 5, 5);
        }
        for (int i = 0; i < 30; i++) {
            Check.due("declaration", i % 10, x.look(i, 0));
            Check.due("kind", i % 5, x.look(i, 1));
            Check.due("samples", 0, x.look(i, 8));
        }
        Check.outside("the 31st", () -> x.look(30, 0));
        Check.outside("no such what of the 30th", () -> x.look(29, 9));
        Check.outside("neither", () -> x.look(30, -1));
    }
}
