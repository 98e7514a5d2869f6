/** Promise 13. */
public final class HoldTest {
    public static void main(String[] args) {
        heldAndNot();
        severalOffices();
        noSuch();
        Check.finish();
    }

    private static void heldAndNot() {
        for (int d = 0; d < 10; d++) {
            InspectSteps x = new InspectSteps();
            for (int office = 0; office < 8; office++) {
                Check.no("not held yet", x.hold(d, office, false));
                Check.yes("held", x.hold(d, office, true));
                Check.no("held twice", x.hold(d, office, true));
                Check.due("offices", 1 << office, x.count(20 + d));
                Check.due("release", 3, x.release(d));
                Check.yes("not any more", x.hold(d, office, false));
                Check.due("offices", 0, x.count(20 + d));
                Check.due("release", 0, x.release(d));
            }
        }
    }

    private static void severalOffices() {
        InspectSteps x = new InspectSteps();
        for (int office = 0; office < 8; office++) {
            Check.yes("held", x.hold(3, office, true));
        }
        Check.due("all", 255, x.count(23));
        Check.due("of another declaration", 0, x.count(24));
        Check.yes("one not any more", x.hold(3, 7, false));
        Check.due("the others", 127, x.count(23));
        Check.due("release", 3, x.release(3));
    }

    private static void noSuch() {
        InspectSteps x = new InspectSteps();
        for (int wrong : new int[] {-1, 10, Scene.LOW, Scene.HIGH}) {
            Check.no("declaration " + wrong, x.hold(wrong, 0, true));
            Check.no("declaration " + wrong, x.hold(wrong, 0, false));
        }
        for (int wrong : new int[] {-1, 8, 32, Scene.LOW, Scene.HIGH}) {
            Check.no("office " + wrong, x.hold(0, wrong, true));
            Check.no("office " + wrong, x.hold(0, wrong, false));
        }
        Check.due("offices", 0, x.count(20));
    }
}
