/** Promises 5, 6 and 7. */
public final class StepsTest {
    public static void main(String[] args) {
        beginRefusesWhatIsNone();
        beginInItsTime();
        beginByRight();
        rightsAsTheyAreNow();
        beginInItsState();
        beginBreaksSeals();
        beginRefusedChangesNothing();
        endRefusesWhatIsNone();
        endByTheSame();
        endInItsState();
        giveUpByState();
        argumentsBeforeStates();
        Check.finish();
    }

    private static void beginRefusesWhatIsNone() {
        InspectSteps x = Scene.allRights();
        Check.bad("no inspection yet", () -> x.begin(0, 0));
        x.inspection(0, 0, 5);
        x.plan(0, 0, 0, 5);
        for (int wrong : new int[] {-1, 1, Scene.LOW, Scene.HIGH}) {
            Check.bad("inspection " + wrong, () -> x.begin(wrong, 0));
        }
        for (int wrong : new int[] {-1, 10, Scene.LOW, Scene.HIGH}) {
            Check.bad("person " + wrong, () -> x.begin(0, wrong));
        }
        Check.due("still planned", 1, x.look(0, 2));
    }

    private static void beginInItsTime() {
        int[][] rows = {{0, 0}, {9, 0}, {10, 1}, {11, 1}, {19, 1}, {20, 1}, {21, 0}, {100000, 0}};
        for (int[] row : rows) {
            InspectSteps x = Scene.allRights();
            x.inspection(0, 2, 100000);
            x.plan(0, 0, 10, 20);
            x.tick(row[0]);
            Check.due("begin at " + row[0], row[1], x.begin(0, 8));
            Check.due("state", 1 + row[1], x.look(0, 2));
            Check.due("person", row[1] == 1 ? 8 : -1, x.look(0, 7));
            Check.due("costs", 300 * row[1], x.count(30));
        }
    }

    private static void beginByRight() {
        for (int kind = 0; kind < 5; kind++) {
            InspectSteps x = new InspectSteps();
            x.inspection(0, kind, 5);
            x.plan(0, 0, 0, 5);
            for (int other = 0; other <= 5; other++) {
                x.right(1, other, other != kind);
                x.right(2, other, other == kind);
            }
            Check.due("with all rights but this", 0, x.begin(0, 1));
            Check.due("with this one alone", 1, x.begin(0, 2));
            Check.due("who does it", 2, x.look(0, 7));
        }
    }

    private static void beginInItsState() {
        InspectSteps x = Scene.allRights();
        x.inspection(0, 0, 5);
        Check.due("asked", 0, x.begin(0, 0));
        x.plan(0, 0, 0, 5);
        Check.due("planned", 1, x.begin(0, 0));
        Check.due("begun", 0, x.begin(0, 1));
        Check.due("by the first one still", 0, x.look(0, 7));
        x.end(0, 0, false);
        Check.due("failed", 0, x.begin(0, 0));
        x.plan(0, 0, 0, 5);
        Check.due("planned again", 1, x.begin(0, 3));
        Check.due("by another one now", 3, x.look(0, 7));
        Check.due("costs each time", 200, x.count(30));
        x.end(0, 3, true);
        Check.due("done", 0, x.begin(0, 0));
        x.inspection(0, 0, 5);
        x.plan(1, 0, 0, 5);
        x.giveUp(1);
        Check.due("given up", 0, x.begin(1, 0));
        Check.due("costs no more", 200, x.count(30));
    }

    private static void beginBreaksSeals() {
        for (int kind = 0; kind < 5; kind++) {
            InspectSteps x = Scene.allRights();
            x.inspection(4, kind, 5);
            x.plan(0, 0, 0, 5);
            Check.due("whole when planned", 0, x.count(14));
            x.begin(0, 0);
            Check.due("kind " + kind, kind >= 3 ? -1 : 0, x.count(14));
            Check.due("another declaration's", 0, x.count(15));
        }
        InspectSteps x = Scene.allRights();
        Scene.begun(x, 4, 3, 0);
        Scene.begun(x, 4, 4, 1);
        Check.due("broken it stays", -1, x.count(14));
    }

    private static void endRefusesWhatIsNone() {
        InspectSteps x = Scene.allRights();
        Check.bad("no inspection yet", () -> x.end(0, 0, true));
        Scene.begun(x, 0, 0, 0);
        for (int wrong : new int[] {-1, 1, Scene.LOW, Scene.HIGH}) {
            Check.bad("inspection " + wrong, () -> x.end(wrong, 0, true));
        }
        for (int wrong : new int[] {-1, 10, Scene.LOW, Scene.HIGH}) {
            Check.bad("person " + wrong, () -> x.end(0, wrong, false));
        }
        Check.due("still begun", 2, x.look(0, 2));
    }

    private static void endByTheSame() {
        InspectSteps x = Scene.allRights();
        Scene.begun(x, 0, 0, 0);
        Scene.begun(x, 0, 1, 1);
        Check.due("by another one", 0, x.end(0, 1, true));
        Check.due("still begun", 2, x.look(0, 2));
        x.right(0, 0, false);
        Check.due("the right is no matter any more", 1, x.end(0, 0, true));
        Check.due("done", 3, x.look(0, 2));
        Check.due("who did it", 0, x.look(0, 7));
        x.tick(100000);
        Check.due("the time is no matter", 1, x.end(1, 0, false));
        Check.due("failed", 4, x.look(1, 2));
        Check.due("who did that", 0, x.look(1, 7));
        Check.due("no cost of ending", 300, x.count(30));
    }

    private static void endInItsState() {
        InspectSteps x = Scene.allRights();
        x.inspection(0, 0, 5);
        Check.due("asked", 0, x.end(0, 0, true));
        x.plan(0, 0, 0, 5);
        Check.due("planned", 0, x.end(0, 0, true));
        x.begin(0, 0);
        x.end(0, 0, false);
        Check.due("failed", 0, x.end(0, 0, true));
        x.plan(0, 0, 0, 5);
        Check.due("planned again", 0, x.end(0, 0, true));
        x.begin(0, 0);
        x.end(0, 0, true);
        Check.due("done", 0, x.end(0, 0, false));
        Check.due("it stays done", 3, x.look(0, 2));
    }

    private static void giveUpByState() {
        InspectSteps x = Scene.allRights();
        Check.no("no inspection yet", x.giveUp(0));
        for (int i = 0; i < 5; i++) {
            x.inspection(0, 0, 50);
        }
        for (int wrong : new int[] {-1, 5, Scene.LOW, Scene.HIGH}) {
            Check.no("inspection " + wrong, x.giveUp(wrong));
        }
        Check.yes("asked", x.giveUp(0));
        Check.due("state", 5, x.look(0, 2));
        Check.no("given up", x.giveUp(0));
        x.plan(1, 0, 0, 10);
        Check.yes("planned", x.giveUp(1));
        Check.due("state", 5, x.look(1, 2));
        Check.due("without a place", -1, x.look(1, 4));
        x.plan(2, 0, 0, 10);
        x.begin(2, 0);
        Check.no("begun", x.giveUp(2));
        Check.due("state", 2, x.look(2, 2));
        x.end(2, 0, true);
        Check.no("done", x.giveUp(2));
        Check.due("state", 3, x.look(2, 2));
        x.plan(3, 0, 0, 10);
        x.begin(3, 0);
        x.end(3, 0, false);
        Check.yes("failed", x.giveUp(3));
        Check.due("state", 5, x.look(3, 2));
        Check.due("the other one is still asked", 0, x.look(4, 2));
    }

    private static void rightsAsTheyAreNow() {
        InspectSteps x = Scene.allRights();
        x.inspection(0, 0, 5);
        x.plan(0, 0, 0, 5);
        x.right(4, 0, false);
        Check.due("not any more", 0, x.begin(0, 4));
        x.right(4, 0, true);
        Check.due("again", 1, x.begin(0, 4));
        Check.due("a person may do several", 1, x.begin(plannedAt(x, 1), 4));
        Check.due("at all places", 1, x.begin(plannedAt(x, 2), 4));
    }

    private static int plannedAt(InspectSteps x, int place) {
        int inspection = x.inspection(0, 0, 5);
        x.plan(inspection, place, 0, 5);
        return inspection;
    }

    private static void beginRefusedChangesNothing() {
        InspectSteps x = Scene.allRights();
        x.right(1, 4, false);
        x.inspection(0, 4, 50);
        Check.due("asked", 0, x.begin(0, 0));
        x.plan(0, 0, 10, 20);
        Check.due("too early", 0, x.begin(0, 0));
        x.tick(20);
        Check.due("without the right", 0, x.begin(0, 1));
        Check.bad("no person", () -> x.begin(0, 10));
        x.tick(21);
        Check.due("too late", 0, x.begin(0, 0));
        Check.due("the seal is whole", 0, x.count(10));
        Check.due("costs", 0, x.count(30));
        Check.due("state", 1, x.look(0, 2));
        Check.due("person", -1, x.look(0, 7));
        Check.due("its place is kept", 0, x.look(0, 4));
        Check.yes("it can only be given up", x.giveUp(0));
    }

    /** What is no person throws where the state alone would be refused. */
    private static void argumentsBeforeStates() {
        InspectSteps x = Scene.allRights();
        x.inspection(0, 0, 5);
        Check.bad("begin, asked", () -> x.begin(0, 10));
        Check.bad("end, asked", () -> x.end(0, -1, true));
        x.giveUp(0);
        Check.bad("begin, given up", () -> x.begin(0, -1));
        Check.bad("end, given up", () -> x.end(0, 10, false));
        Check.bad("plan, given up, no place", () -> x.plan(0, 4, 0, 5));
    }
}
