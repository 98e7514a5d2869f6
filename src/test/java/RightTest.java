/** Promise 2. */
public final class RightTest {
    public static void main(String[] args) {
        givenAndTaken();
        noSuch();
        eachApart();
        whatItIsFor();
        Check.finish();
    }

    private static void givenAndTaken() {
        InspectSteps x = new InspectSteps();
        for (int person = 0; person < 10; person++) {
            for (int kind = 0; kind <= 5; kind++) {
                Check.no("not there yet", x.right(person, kind, false));
                Check.yes("given", x.right(person, kind, true));
                Check.no("given twice", x.right(person, kind, true));
                Check.yes("taken", x.right(person, kind, false));
                Check.no("taken twice", x.right(person, kind, false));
            }
        }
    }

    private static void noSuch() {
        InspectSteps x = new InspectSteps();
        for (int person : new int[] {-1, 10, Scene.LOW, Scene.HIGH}) {
            Check.no("no person " + person, x.right(person, 0, true));
            Check.no("no person " + person, x.right(person, 0, false));
        }
        for (int kind : new int[] {-1, 6, 32, 37, Scene.LOW, Scene.HIGH}) {
            Check.no("no right " + kind, x.right(0, kind, true));
            Check.no("no right " + kind, x.right(0, kind, false));
        }
    }

    private static void eachApart() {
        InspectSteps x = new InspectSteps();
        Check.yes("one right", x.right(4, 2, true));
        Check.yes("the same of another person", x.right(5, 2, true));
        Check.yes("another of the same person", x.right(4, 3, true));
        Check.yes("one taken", x.right(4, 2, false));
        Check.no("the other is still there", x.right(4, 3, true));
        Check.no("that of another person too", x.right(5, 2, true));
    }

    private static void whatItIsFor() {
        for (int kind = 0; kind < 5; kind++) {
            InspectSteps x = Scene.allRights();
            x.inspection(0, kind, 10);
            x.plan(0, 0, 0, 10);
            x.right(6, kind, false);
            Check.due("begin without the right", 0, x.begin(0, 6));
            x.right(6, kind, true);
            Check.due("begin with it", 1, x.begin(0, 6));
        }
    }
}
