/** Promises 23 to 25: FAULTS, and the one that explains a PAPER. */
public final class FaultsTest {
    private static final Due due = new Due();

    public static void main(String[] args) {
        faultRefuses();
        worn();
        wornLift();
        loose();
        looseThatIsGone();
        bent();
        bentAtTheTop();
        inPlaceOfAnother();
        mend();
        explainedWithout();
        explainedByWorn();
        explainedByLoose();
        explainedByBent();
        explainedByTheFirst();
        explainedByNone();
        explainedIsAsItIsNow();
        explainedIsWrittenToItsEnd();
        explainedRefuses();
        due.end();
    }

    /** LETTER 0 of CAMS 0, 1, 2 marks two CELLS; LETTER 1 of CAMS 3, 4, 2 marks two others. */
    private static CamFigures figure() {
        CamFigures x = new CamFigures();
        x.length(3);
        Due.cut(x, 0, 1, 0, 4);
        Due.cut(x, 1, 0, 0, 3);
        Due.cut(x, 2, 0, 9, 0);
        Due.cut(x, 3, 2, 0, 0);
        Due.cut(x, 4, 6, 0, 8);
        x.letter(0, 0, 1, 2);
        x.letter(1, 3, 4, 2);
        x.peg(0);
        x.peg(1);
        x.wind(1000);
        return x;
    }

    private static void explained(String when, CamFigures x, int kind, int which) {
        due.is(when + ": explained(0)", x.explained(0), kind);
        due.is(when + ": explained(1)", x.explained(1), which);
    }

    private static void faultRefuses() {
        CamFigures x = new CamFigures();
        x.peg(0);
        due.is("KIND 0", x.fault(0, 0), -2);
        due.is("KIND 4 ahead of -1", x.fault(4, 99), -2);
        due.is("CAM 11 that is MISSING", x.fault(1, 11), 1);
        due.is("CAM 12", x.fault(1, 12), -1);
        due.is("CAM -1", x.fault(1, -1), -1);
        due.is("PEG 0", x.fault(2, 0), 1);
        due.is("PEG 1", x.fault(2, 1), -1);
        due.is("PEG -1", x.fault(2, -1), -1);
        due.is("LEVER 1", x.fault(3, 1), 1);
        due.is("LEVER 2", x.fault(3, 2), -1);
        due.is("LEVER -1", x.fault(3, -1), -1);
        for (int far : Due.FAR) {
            due.is("far KIND", x.fault(far, 0), -2);
            due.is("far CAM", x.fault(1, far), -1);
            due.is("far PEG", x.fault(2, far), -1);
            due.is("far LEVER", x.fault(3, far), -1);
        }
        due.is("FAULTS", x.count(10), 3);
        due.refusals(x, 24, 8, 0, 0, 0, 0, 0);
    }

    private static void worn() {
        CamFigures x = figure();
        x.show();
        due.paper("without", x, 1, 0, 4, 3, 7, 6, 5, 8);
        x.fault(1, 0);
        due.is("show", x.show(), 6);
        due.paper("ACROSS", x, 0, 0, 3, 3, 7, 6, 5, 8);
        due.heights(x, 0, 1, 0, 4);
        x.fault(1, 4);
        x.show();
        due.paper("UP", x, 1, 0, 4, 3, 7, 5, 5, 7);
        due.heights(x, 4, 6, 0, 8);
    }

    private static void wornLift() {
        CamFigures x = figure();
        x.cutAt(2, 1, 1);
        x.unpeg();
        x.fault(1, 2);
        x.show();
        due.paper("1 becomes 0: the pen is down", x, 1, 0, 0, 0, 1, 1, 2, 2, 3, 2, 4, 3);
        x.cutAt(2, 1, 2);
        x.show();
        due.paper("2 becomes 1", x, 1, 0, 4, 3);
    }

    private static void loose() {
        CamFigures x = figure();
        x.fault(2, 0);
        due.is("no steps of it", x.show(), 3);
        due.is("POWER", x.count(3), 994);
        due.paper("the other's place stays", x, 7, 6, 5, 8);
        due.is("it is DONE", x.count(9), 1);
        due.is("FIRST is by PEG 1", x.first(7, 6, 0), 1);
    }

    private static void looseThatIsGone() {
        CamFigures x = figure();
        x.fault(2, 1);
        x.unpeg();
        due.is("it does nothing", x.show(), 3);
        due.paper("PEG 0 alone", x, 1, 0, 4, 3);
        due.is("FAULTS", x.count(10), 1);
        x.peg(1);
        due.is("such a PEG is there again", x.show(), 3);
        due.is("mend", x.mend(), 1);
    }

    private static void bent() {
        CamFigures x = figure();
        x.fault(3, 0);
        x.show();
        due.paper("X", x, 2, 0, 5, 3, 8, 6, 6, 8);
        x.fault(3, 1);
        x.show();
        due.paper("Y", x, 1, 1, 4, 4, 7, 7, 5, 9);
    }

    private static void bentAtTheTop() {
        CamFigures x = figure();
        x.unpeg();
        Due.cut(x, 0, 0, 4, 4);
        Due.cut(x, 1, 9, 5, 5);
        Due.cut(x, 2, 0, 0, 1);
        x.fault(3, 1);
        x.show();
        due.paper("Y of a step is 9 at most; the LINE is between such", x, 0, 9, 1, 8, 2, 8, 3, 7, 4, 6);
        Due.cut(x, 0, 9, 9, 9);
        Due.cut(x, 1, 9, 9, 9);
        x.advance(9);
        for (int k = 1; k < 12; k++) {
            x.peg(0);
        }
        x.fault(3, 0);
        x.show();
        due.is("X 109", x.marked(109, 9), 1);
    }

    private static void inPlaceOfAnother() {
        CamFigures x = figure();
        x.fault(2, 1);
        x.fault(2, 0);
        due.is("FAULTS", x.count(10), 1);
        x.show();
        due.paper("PEG 0 alone is LOOSE", x, 7, 6, 5, 8);
        x.fault(1, 4);
        x.fault(1, 3);
        x.fault(3, 0);
        x.fault(3, 1);
        due.is("FAULTS", x.count(10), 3);
        x.show();
        due.paper("one of each KIND holds", x, 6, 7, 5, 9);
    }

    private static void mend() {
        CamFigures x = figure();
        due.is("none", x.mend(), 0);
        x.fault(1, 0);
        x.fault(2, 1);
        x.fault(3, 1);
        due.is("three", x.mend(), 3);
        due.is("FAULTS", x.count(10), 0);
        x.show();
        due.paper("they hold no longer", x, 1, 0, 4, 3, 7, 6, 5, 8);
        x.fault(2, 0);
        due.is("one", x.mend(), 1);
        x.fault(3, 0);
        due.is("one", x.mend(), 1);
        x.fault(1, 0);
        due.is("one", x.mend(), 1);
    }

    private static void explainedWithout() {
        CamFigures x = new CamFigures();
        explained("nothing to write", x, 0, -9);
        x.see(0, 0, true);
        explained("a mark by nothing", x, -9, -9);
        x = figure();
        explained("no PAPER yet", x, -9, -9);
        x.show();
        explained("as written", x, 0, -9);
        x.see(1, 0, false);
        x.see(1, 0, true);
        explained("FIRST does not matter", x, 0, -9);
    }

    private static void explainedByWorn() {
        for (int cam = 0; cam < 5; cam++) {
            CamFigures x = figure();
            x.cutAt(2, 1, 1);
            x.fault(1, cam);
            x.show();
            explained("WORN " + cam, x, 1, cam);
            due.is("FAULTS stay", x.count(10), 1);
        }
    }

    private static void explainedByLoose() {
        for (int peg = 0; peg < 2; peg++) {
            CamFigures x = figure();
            x.fault(2, peg);
            x.show();
            explained("LOOSE " + peg, x, 2, peg);
        }
    }

    private static void explainedByBent() {
        for (int lever = 0; lever < 2; lever++) {
            CamFigures x = figure();
            x.fault(3, lever);
            x.show();
            explained("BENT " + lever, x, 3, lever);
        }
    }

    /** PEGS of LETTERS 0, 1, ... whose ACROSS and UP stay at one height: CELLS by pairs; ADVANCE 0. */
    private static CamFigures cells(int... heights) {
        CamFigures x = new CamFigures();
        x.length(2);
        x.advance(0);
        x.blank(11);
        for (int i = 0; i + 1 < heights.length; i += 2) {
            Due.cut(x, i, heights[i], heights[i]);
            Due.cut(x, i + 1, heights[i + 1], heights[i + 1]);
            x.letter(i / 2, i, i + 1, 11);
            x.peg(i / 2);
        }
        x.wind(1000);
        return x;
    }

    /** Two FAULTS leave the same CELLS: the first of them is told. */
    private static void explainedByTheFirst() {
        CamFigures x = cells(3, 3, 3, 3);
        x.fault(2, 1);
        x.show();
        explained("a LOOSE PEG that is not missed", x, 0, -9);
        x = cells(1, 0, 1, 0);
        x.fault(1, 2);
        x.show();
        due.paper("CAM 0 or CAM 2", x, 0, 0, 1, 0);
        explained("the least CAM", x, 1, 0);
        x = cells(0, 0, 1, 0);
        x.fault(2, 1);
        x.show();
        due.paper("CAM 2 is WORN or PEG 1 is LOOSE", x, 0, 0);
        explained("WORN ahead of LOOSE", x, 1, 2);
        x = cells(0, 8, 0, 9);
        x.fault(3, 1);
        x.show();
        due.paper("PEG 0 is LOOSE or Y is BENT", x, 0, 9);
        explained("LOOSE ahead of BENT", x, 2, 0);
        x = cells(9, 9);
        x.fault(3, 1);
        x.show();
        explained("BENT that is not seen", x, 0, -9);
        leastPeg();
    }

    private static void leastPeg() {
        CamFigures x = new CamFigures();
        x.length(2);
        Due.cut(x, 0, 2, 2);
        x.blank(1);
        x.letter(0, 0, 1, 1);
        x.peg(0);
        x.peg(0);
        x.see(7, 0, true);
        explained("PEG 0 is LOOSE", x, 2, 0);
        x.see(7, 0, false);
        x.see(2, 0, true);
        explained("PEG 1 is LOOSE", x, 2, 1);
        x.see(1, 0, true);
        x.see(2, 0, false);
        x.see(6, 0, true);
        explained("WORN", x, 1, 0);
        x.see(1, 0, false);
        x.see(6, 0, false);
        x.see(3, 0, true);
        x.see(8, 0, true);
        explained("BENT", x, 3, 0);
        x.advance(0);
        x.unpeg();
        x.see(8, 0, false);
        explained("BENT", x, 3, 0);
        x.see(3, 0, false);
        explained("LOOSE, the one PEG", x, 2, 0);
    }

    private static void explainedByNone() {
        CamFigures x = figure();
        x.fault(1, 0);
        x.fault(3, 1);
        x.show();
        explained("two FAULTS", x, -9, -9);
        x.mend();
        x.show();
        x.see(119, 9, true);
        explained("a mark too many", x, -9, -9);
        x.see(119, 9, false);
        x.see(5, 8, false);
        explained("a mark too few", x, -9, -9);
    }

    private static void explainedIsAsItIsNow() {
        CamFigures x = figure();
        x.pull(20);
        x.show();
        x.cutAt(0, 0, 2);
        x.cutAt(0, 2, 5);
        explained("the CAM is higher now", x, 1, 0);
        x.unpeg();
        explained("a PEG is out now", x, -9, -9);
        x = figure();
        x.lose(3);
        x.blank(3);
        explained("nothing was written", x, -9, -9);
    }

    /** The PAPER is held against the whole MESSAGE, whatever the SPRING has. */
    private static void explainedIsWrittenToItsEnd() {
        CamFigures x = figure();
        x.pull(20);
        for (int i = 0; i < 8; i++) {
            x.show();
        }
        due.is("POWER", x.count(3), 40);
        due.is("it STOPS", x.show(), 2);
        due.paper("one CELL", x, 1, 0);
        explained("STOPS is no FAULT", x, -9, -9);
        x.wind(20);
        x.see(4, 3, true);
        explained("as if PEG 1 were LOOSE", x, 2, 1);
        x.see(7, 6, true);
        x.see(5, 8, true);
        explained("as if it was written to its end", x, 0, -9);
        due.is("POWER stays", x.count(3), 20);
        due.is("steps stay", x.count(7), 50);
    }

    private static void explainedRefuses() {
        CamFigures x = figure();
        x.show();
        x.lose(4);
        due.is("-3", x.explained(0), -3);
        due.is("-3", x.explained(1), -3);
        due.is("-2 ahead of -3", x.explained(2), -2);
        due.is("-2 below", x.explained(-1), -2);
        x.unpeg();
        due.is("the LETTER is not in the MESSAGE", x.explained(0), -9);
        for (int far : Due.FAR) {
            due.is("far what", x.explained(far), -2);
        }
        due.refusals(x, 0, 8, 2, 0, 0, 0, 0);
    }
}
