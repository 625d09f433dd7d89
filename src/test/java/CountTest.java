/** Promise 29: count; and that a refused call changes nothing else. */
public final class CountTest {
    private static final Due due = new Due();

    public static void main(String[] args) {
        eachCount();
        others();
        refusedCallsChangeNothing();
        due.end();
    }

    private static void eachCount() {
        CamFigures x = new CamFigures();
        x.length(5);
        x.blank(0);
        x.blank(3);
        x.peg(0);
        x.peg(1);
        x.peg(2);
        x.wind(1001);
        x.show();
        x.wind(5000);
        x.pull(20);
        for (int i = 0; i < 4; i++) {
            x.show();
        }
        x.fault(1, 0);
        x.fault(3, 1);
        int[] want = {5, 2, 3, 0, 0, 2, 107, 65, 5, 4, 2, 0, 0, 0, 0, 0, 0, 0};
        for (int what = 0; what < want.length; what++) {
            due.is("count(" + what + ")", x.count(what), want[what]);
        }
        refuseEach(x);
    }

    /** -1 once, -2 twice, and so on. */
    private static void refuseEach(CamFigures x) {
        for (int i = 1; i <= 7; i++) {
            for (int n = 0; n < i; n++) {
                due.is("refusal", refusal(x, i), -i);
            }
        }
        due.refusals(x, 1, 2, 3, 4, 5, 6, 7);
    }

    private static int refusal(CamFigures x, int i) {
        switch (i) {
            case 1:
                return x.blank(12);
            case 2:
                return x.camOf(0, 5);
            case 3:
                return x.like(0, 0);
            case 4:
                return x.wind(-1);
            case 5:
                return x.height(7, 0);
            case 6:
                return x.pull(21);
            default:
                return x.height(0, 5);
        }
    }

    private static void others() {
        CamFigures x = new CamFigures();
        due.is("count(-1)", x.count(-1), -9);
        due.is("count(18)", x.count(18), -9);
        for (int far : Due.FAR) {
            due.is("count(" + far + ")", x.count(far), -9);
        }
        due.refusals(x, 0, 0, 0, 0, 0, 0, 0);
    }

    private static void refusedCallsChangeNothing() {
        CamFigures x = new CamFigures();
        x.length(2);
        Due.cut(x, 0, 3, 4);
        x.letter(1, 0, 0, 5);
        x.peg(1);
        x.see(8, 8, true);
        int before = sumOfState(x);
        x.length(1);
        x.blank(-1);
        x.cutAt(0, 0, 10);
        x.copy(0, 0, 0, 1, 2);
        x.turn(0, 2);
        x.letter(1, 0, 0, 12);
        x.peg(10);
        x.advance(10);
        x.pull(0);
        x.wind(5001);
        x.show();
        x.see(8, 10, false);
        x.fault(2, 1);
        x.explained(0);
        x.made(0, 4);
        due.is("state", sumOfState(x), before);
        due.is("isCut(1)", x.isCut(1), 0);
        due.refusals(x, 6, 0, 2, 2, 0, 3, 2);
    }

    private static int sumOfState(CamFigures x) {
        int sum = x.marks();
        for (int what = 0; what <= 10; what++) {
            sum = sum * 31 + x.count(what);
        }
        return (sum * 31 + x.height(0, 0)) * 31 + x.height(0, 1);
    }
}
