/** Promise 3. */
public final class InspectionTest {
    public static void main(String[] args) {
        numbers();
        refused();
        dueFromNowOn();
        dueAtTheEndOfTime();
        everyDeclarationAndKind();
        thirty();
        Check.finish();
    }

    private static void numbers() {
        InspectSteps x = new InspectSteps();
        Check.due("the first", 0, x.inspection(0, 0, 0));
        Check.due("the second", 1, x.inspection(9, 4, 100000));
        Check.due("of the same declaration and kind", 2, x.inspection(9, 4, 100000));
        Check.due("inspections", 3, x.count(0));
        Check.due("declaration", 9, x.look(1, 0));
        Check.due("kind", 4, x.look(1, 1));
        Check.due("asked", 0, x.look(1, 2));
        Check.due("level", 0, x.look(1, 3));
        Check.due("release", 1, x.release(9));
    }

    private static void refused() {
        InspectSteps x = new InspectSteps();
        for (int wrong : new int[] {-1, 10, Scene.LOW, Scene.HIGH}) {
            Check.bad("declaration " + wrong, () -> x.inspection(wrong, 0, 5));
        }
        for (int wrong : new int[] {-1, 5, Scene.LOW, Scene.HIGH}) {
            Check.bad("kind " + wrong, () -> x.inspection(0, wrong, 5));
        }
        for (int wrong : new int[] {-1, 100001, Scene.LOW, Scene.HIGH}) {
            Check.bad("due " + wrong, () -> x.inspection(0, 0, wrong));
        }
        Check.due("none was made", 0, x.count(0));
    }

    private static void dueFromNowOn() {
        InspectSteps x = new InspectSteps();
        x.tick(50);
        Check.bad("due before NOW", () -> x.inspection(0, 0, 49));
        Check.due("due NOW", 0, x.inspection(0, 0, 50));
        x.inspection(0, 0, 70);
        Check.due("a due time is not told as NOW", 50, x.count(2));
    }

    private static void thirty() {
        InspectSteps x = new InspectSteps();
        for (int i = 0; i < 30; i++) {
            Check.due("inspection", i, x.inspection(i % 10, i % 5, i));
        }
        Check.full("the 31st", () -> x.inspection(0, 0, 5));
        Check.bad("the argument is told first", () -> x.inspection(10, 0, 5));
        Check.bad("the kind is told first", () -> x.inspection(0, 5, 5));
        Check.bad("the time is told first", () -> x.inspection(0, 0, -1));
        for (int i = 0; i < 30; i++) {
            x.giveUp(i);
        }
        Check.full("given up ones count too", () -> x.inspection(0, 0, 5));
        Check.due("inspections", 30, x.count(0));
    }

    private static void dueAtTheEndOfTime() {
        InspectSteps x = new InspectSteps();
        x.tick(100000);
        Check.bad("before NOW", () -> x.inspection(0, 0, 99999));
        Check.bad("behind the last time", () -> x.inspection(0, 0, 100001));
        Check.due("at the last time", 0, x.inspection(0, 0, 100000));
    }

    private static void everyDeclarationAndKind() {
        for (int kind = 0; kind < 5; kind++) {
            InspectSteps x = new InspectSteps();
            for (int d = 0; d < 10; d++) {
                Check.due("number", d, x.inspection(d, kind, 5));
                Check.due("declaration", d, x.look(d, 0));
                Check.due("kind", kind, x.look(d, 1));
                Check.due("release", 1, x.release(d));
            }
        }
    }
}
