/** Promise 1: a new object. */
public final class NewObjectTest {
    public static void main(String[] args) {
        Check check = new Check("NewObjectTest");
        ShuttleDoors x = new ShuttleDoors();
        int[] counts = {30, 60, 3, 60, 6, 0, 0, 0, 0, 0, 0, 0, 0, -106, 0, 0};
        for (int what = 0; what < counts.length; what++) {
            check.same("count(" + what + ")", x.count(what), counts[what]);
        }
        for (int f = 0; f < 6; f++) {
            check.same("lands " + f, x.flight(f, 0), 60 * f);
            check.same("delay " + f, x.flight(f, 1), 0);
            check.same("ready " + f, x.flight(f, 2), 60 * f + 30);
            check.same("people " + f, x.flight(f, 3), 0);
            check.same("stranded " + f, x.flight(f, 4), 0);
        }
        int[] van = {0, 6, 0, 0, 0, 0, -106, 0};
        for (int v = 0; v < 8; v++) {
            for (int what = 0; what < van.length; what++) {
                int due = what == 0 ? 60 * v + 60 : van[what];
                check.same("vanOf(" + v + ", " + what + ")", x.vanOf(v, what), due);
            }
        }
        check.same("fullest", x.fullest(), -106);
        check.same("fault", x.fault(), 0);
        check.same("undo", x.undo(), -105);
        check.same("restore 0", x.restore(0), -105);
        check.same("restore 1", x.restore(1), -105);
        check.same("kerb", x.kerb(30), 0);
        ShuttleDoors y = new ShuttleDoors();
        y.ride(0, 0, 0, 1);
        y.set(0, 1);
        y.save(0);
        Texts.put(y, "0a0");
        check.same("objects are apart: riders", x.count(5), 0);
        check.same("objects are apart: bags", x.count(0), 30);
        check.same("objects are apart: slot", x.restore(0), -105);
        check.same("objects are apart: pad", x.count(14), 0);
        check.end();
    }
}
