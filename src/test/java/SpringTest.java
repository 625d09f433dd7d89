/** Promises 16 to 18 as to the SPRING: PULL, WINDING, and what a SHOW takes and makes. */
public final class SpringTest {
    private static final Due due = new Due();

    public static void main(String[] args) {
        pull();
        wind();
        strain();
        stops();
        stopsWithinTheMessage();
        slow();
        wear();
        mostWear();
        wearWithinAShow();
        noPegs();
        showRefuses();
        due.end();
    }

    /** PEGS of a LETTER that marks one CELL by as many steps as LENGTH. */
    private static CamFigures figure(int length, int pegs) {
        CamFigures x = new CamFigures();
        x.length(length);
        x.blank(0);
        for (int k = 0; k < pegs; k++) {
            x.peg(0);
        }
        return x;
    }

    private static void pull() {
        CamFigures x = figure(2, 1);
        x.wind(100);
        due.is("show", x.show(), 2);
        due.is("PULL 2", x.count(3), 96);
        due.is("pull(20)", x.pull(20), 2);
        x.show();
        due.is("PULL 20", x.count(3), 56);
        due.is("pull(1)", x.pull(1), 20);
        x.show();
        due.is("PULL 1", x.count(3), 54);
        due.is("pull(0)", x.pull(0), -4);
        due.is("pull(21)", x.pull(21), -6);
        for (int far : Due.FAR) {
            due.is("pull(" + far + ")", x.pull(far), far < 0 ? -4 : -6);
        }
        due.is("pull(2)", x.pull(2), 1);
        due.refusals(x, 0, 0, 0, 5, 0, 3, 0);
    }

    private static void wind() {
        CamFigures x = new CamFigures();
        due.is("wind(0)", x.wind(0), 0);
        due.is("wind(999)", x.wind(999), 999);
        due.is("wind(1)", x.wind(1), 1000);
        due.is("nothing was lost", x.count(5), 0);
        due.is("wind(0)", x.wind(0), 1000);
        due.is("nothing was lost", x.count(5), 0);
        due.is("wind(5000)", x.wind(5000), 1000);
        due.is("wind(-1)", x.wind(-1), -4);
        due.is("wind(5001)", x.wind(5001), -6);
        for (int far : Due.FAR) {
            due.is("wind(" + far + ")", x.wind(far), far < 0 ? -4 : -6);
        }
        due.is("POWER", x.count(3), 1000);
        due.is("STRAIN", x.count(5), 1);
        due.refusals(x, 0, 0, 0, 5, 0, 3, 0);
    }

    private static void strain() {
        CamFigures x = new CamFigures();
        due.is("wind(1001)", x.wind(1001), 1000);
        due.is("STRAIN", x.count(5), 1);
        x.wind(1);
        x.wind(5000);
        due.is("STRAIN", x.count(5), 3);
    }

    private static void stops() {
        CamFigures x = figure(2, 1);
        due.is("no POWER", x.show(), 0);
        due.paper("nothing is written", x);
        due.is("SHOWS", x.count(8), 1);
        due.is("DONE", x.count(9), 0);
        x.wind(3);
        due.is("POWER for one step", x.show(), 1);
        due.is("POWER that is left", x.count(3), 1);
        due.is("DONE", x.count(9), 0);
        x.wind(3);
        due.is("POWER for both", x.show(), 2);
        due.is("POWER", x.count(3), 0);
        due.is("SHOWS", x.count(8), 3);
        due.is("DONE", x.count(9), 1);
        due.is("steps", x.count(7), 3);
        due.is("ticks", x.count(6), 12);
    }

    private static void stopsWithinTheMessage() {
        CamFigures x = figure(4, 3);
        x.wind(10);
        due.is("five steps", x.show(), 5);
        due.paper("the first PEG and a step of the next", x, 0, 0, 5, 0);
        x.wind(16);
        due.is("from its first step on", x.show(), 8);
        due.paper("on new paper", x, 0, 0, 5, 0);
        due.is("no POWER", x.show(), 0);
        due.paper("on new paper, again", x);
    }

    private static void slow() {
        int[] powers = {1000, 501, 500, 499, 201, 200, 199, 20, 19};
        int[] ticks = {2, 2, 3, 4, 4, 6, 8, 4, 0};
        for (int i = 0; i < powers.length; i++) {
            CamFigures x = figure(2, 1);
            x.pull(powers[i] % 100 == 1 ? 1 : 20);
            x.wind(powers[i]);
            x.show();
            due.is("ticks of two steps by POWER " + powers[i], x.count(6), ticks[i]);
        }
    }

    private static void wear() {
        CamFigures x = figure(10, 9);
        x.pull(1);
        x.wind(1000);
        due.is("show", x.show(), 90);
        due.is("WEAR after 90", x.count(4), 0);
        x.unpeg();
        x.length(9);
        x.blank(0);
        while (x.count(2) > 1) {
            x.unpeg();
        }
        due.is("show", x.show(), 9);
        due.is("WEAR after 99", x.count(4), 0);
        due.is("POWER", x.count(3), 901);
        x.length(2);
        x.blank(0);
        due.is("show", x.show(), 2);
        due.is("WEAR after 101", x.count(4), 1);
        due.is("the step after the hundredth needs one more", x.count(3), 898);
    }

    private static void mostWear() {
        CamFigures x = figure(16, 12);
        x.pull(1);
        for (int i = 0; i < 30; i++) {
            x.wind(5000);
            x.show();
        }
        due.is("WEAR", x.count(4), 20);
        due.is("steps are above 2100", x.count(7) > 2100 ? 1 : 0, 1);
        int made = x.count(7);
        x.wind(5000);
        due.is("1000 by 21", x.show(), 47);
        due.is("POWER", x.count(3), 13);
        due.is("steps", x.count(7), made + 47);
    }

    private static void wearWithinAShow() {
        CamFigures x = figure(16, 12);
        x.pull(1);
        x.wind(1000);
        due.is("show", x.show(), 192);
        due.is("100 by 1, 92 by 2", x.count(3), 716);
        due.is("ticks", x.count(6), 192);
        due.is("WEAR", x.count(4), 1);
        due.is("show", x.show(), 192);
        due.is("8 by 2, 100 by 3, 84 by 4", x.count(3), 64);
        due.is("WEAR", x.count(4), 3);
        due.is("show", x.show(), 16);
        due.is("16 by 4, then 5", x.count(3), 0);
        due.is("WEAR", x.count(4), 4);
        due.is("DONE", x.count(9), 2);
    }

    private static void noPegs() {
        CamFigures x = new CamFigures();
        x.see(4, 4, true);
        due.is("show of nothing", x.show(), 0);
        due.is("it is DONE", x.count(9), 1);
        due.is("SHOWS", x.count(8), 1);
        due.paper("new paper", x);
    }

    private static void showRefuses() {
        CamFigures x = figure(2, 2);
        x.wind(100);
        x.show();
        x.letter(1, 0, 0, 7);
        x.peg(1);
        due.is("a LETTER isn't CUT", x.show(), -3);
        due.is("SHOWS", x.count(8), 1);
        due.is("POWER", x.count(3), 92);
        due.paper("the PAPER stays", x, 0, 0, 5, 0);
        x.fault(2, 2);
        due.is("nor may a LOOSE PEG's be MISSING", x.show(), -3);
        x.blank(7);
        due.is("now it is CUT", x.show(), 4);
        due.refusals(x, 0, 0, 2, 0, 0, 0, 0);
    }
}
