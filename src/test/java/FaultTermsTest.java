/** The document's terms, sentence by sentence: FAULTS, and what EXPLAINS a PAPER. */
public final class FaultTermsTest {
    private static final Due due = new Due();

    public static void main(String[] args) {
        wornIsOneLess();
        wornLift();
        wornOfAllThatUseIt();
        wornIsNotCut();
        wornThatIsMissing();
        looseIsNotWritten();
        looseTakesNoSteps();
        looseThatIsNoMore();
        bentX();
        bentY();
        bentAtTheTop();
        oneOfEachKind();
        allThreeAtOnce();
        faultsHoldForShows();
        faultsStayTold();
        noFaultExplains();
        faultsToldDoNotExplain();
        theLeastCam();
        eachPegExplains();
        eachLeverExplains();
        kindsInTheirOrder();
        noSuchOne();
        asTheyAreNow();
        writtenToItsEnd();
        due.end();
    }

    /** PEGS of LETTER 0 by CAMS 0, 1, 2, each of one height at both steps; ADVANCE 9; a full SPRING. */
    private static CamFigures figure(int pegs, int across, int up, int lift) {
        CamFigures x = new CamFigures();
        x.length(2);
        Due.cut(x, 0, across, across);
        Due.cut(x, 1, up, up);
        Due.cut(x, 2, lift, lift);
        x.letter(0, 0, 1, 2);
        for (int k = 0; k < pegs; k++) {
            x.peg(0);
        }
        x.advance(9);
        x.wind(1000);
        return x;
    }

    private static void explained(String when, CamFigures x, int kind, int which) {
        due.is(when + ": KIND", x.explained(0), kind);
        due.is(when + ": which", x.explained(1), which);
    }

    /** "each of its heights above 0 is one less". */
    private static void wornIsOneLess() {
        for (int v = 0; v <= 9; v++) {
            int less = v == 0 ? 0 : v - 1;
            CamFigures x = figure(2, v, 4, 0);
            x.fault(1, 0);
            x.show();
            due.paper("ACROSS " + v, x, less, 4, 9 + less, 4);
            x = figure(2, 4, v, 0);
            x.fault(1, 1);
            x.show();
            due.paper("UP " + v, x, 4, less, 13, less);
        }
    }

    private static void wornLift() {
        for (int v = 0; v <= 9; v++) {
            CamFigures x = figure(1, 4, 4, v);
            x.fault(1, 2);
            due.is("show", x.show(), 2);
            due.is("LIFT " + v, x.marks(), v <= 1 ? 1 : 0);
        }
    }

    private static void wornOfAllThatUseIt() {
        CamFigures x = figure(1, 4, 7, 0);
        x.letter(1, 1, 1, 2);
        x.letter(2, 0, 0, 2);
        x.peg(1);
        x.peg(2);
        x.fault(1, 1);
        x.show();
        due.paper("UP of PEG 0, both of PEG 1, none of PEG 2", x, 4, 6, 15, 6, 22, 4);
    }

    /** A WORN CAM writes otherwise, but its heights are told as they were cut. */
    private static void wornIsNotCut() {
        CamFigures x = figure(1, 4, 7, 0);
        x.fault(1, 0);
        x.show();
        x.show();
        due.paper("once less, not twice", x, 3, 7);
        due.heights(x, 0, 4, 4);
        due.is("SMOOTH", x.camOf(0, 2), 0);
        due.is("cutAt", x.cutAt(0, 1, 4), 4);
        x.mend();
        x.show();
        due.paper("mended", x, 4, 7);
    }

    /** "if there is no such .. CAM then, it does nothing". */
    private static void wornThatIsMissing() {
        CamFigures x = figure(1, 4, 7, 0);
        due.is("a CAM that is MISSING", x.fault(1, 11), 1);
        due.is("show", x.show(), 2);
        due.paper("it does nothing", x, 4, 7);
        Due.cut(x, 11, 4, 4);
        x.letter(0, 11, 1, 2);
        x.show();
        due.paper("it is there now", x, 3, 7);
        x.length(2);
        Due.cut(x, 0, 5, 5);
        Due.cut(x, 1, 5, 5);
        x.blank(2);
        x.letter(0, 0, 1, 2);
        x.show();
        due.paper("it is MISSING again", x, 5, 5);
        due.is("FAULTS", x.count(10), 1);
    }

    /** "a PEG is LOOSE: its LETTER is not written (nothing is at its place". */
    private static void looseIsNotWritten() {
        for (int loose = 0; loose < 12; loose++) {
            CamFigures x = figure(12, 0, 3, 0);
            due.is("fault", x.fault(2, loose), 1);
            due.is("show", x.show(), 22);
            due.is("marks", x.marks(), 11);
            for (int k = 0; k < 12; k++) {
                due.is("PEG " + k + " with " + loose + " LOOSE", x.first(9 * k, 3, 0), k == loose ? -9 : k);
            }
            due.is("DONE", x.count(9), 1);
        }
    }

    /** "no steps of it)". */
    private static void looseTakesNoSteps() {
        CamFigures x = figure(2, 0, 0, 0);
        x.fault(2, 0);
        due.is("show", x.show(), 2);
        due.is("POWER", x.count(3), 996);
        due.is("ticks", x.count(6), 2);
        due.is("steps", x.count(7), 2);
        CamFigures y = figure(1, 0, 0, 0);
        y.fault(2, 0);
        due.is("show", y.show(), 0);
        due.is("POWER", y.count(3), 1000);
        due.is("marks", y.marks(), 0);
    }

    /** "PEGS as they are now; if there is no such PEG .. then, it does nothing". */
    private static void looseThatIsNoMore() {
        CamFigures x = figure(2, 0, 0, 0);
        due.is("PEG 2 is not yet", x.fault(2, 2), -1);
        due.is("PEG 1", x.fault(2, 1), 1);
        x.unpeg();
        due.is("PEG 1 is no more", x.fault(2, 1), -1);
        due.is("it does nothing", x.show(), 2);
        due.paper("PEG 0", x, 0, 0);
        x.unpeg();
        due.is("PEG 0 is no more", x.fault(2, 0), -1);
        due.is("no PEG is left", x.show(), 0);
        x.peg(0);
        x.peg(0);
        x.peg(0);
        due.is("there is such a PEG again", x.show(), 4);
        due.paper("PEGS 0 and 2", x, 0, 0, 18, 0);
    }

    /** "X (which 0) .. of all is one more". */
    private static void bentX() {
        for (int v = 0; v <= 9; v++) {
            CamFigures x = figure(12, v, 9, 0);
            due.is("fault", x.fault(3, 0), 1);
            x.show();
            due.is("marks", x.marks(), 12);
            for (int k = 0; k < 12; k++) {
                due.is("PEG " + k, x.first(9 * k + v + 1, 9, 0), k);
            }
        }
    }

    /** "or Y (which 1) of all is one more, Y 9 at most". */
    private static void bentY() {
        for (int v = 0; v <= 9; v++) {
            CamFigures x = figure(2, 9, v, 0);
            due.is("fault", x.fault(3, 1), 1);
            x.show();
            int more = v == 9 ? 9 : v + 1;
            due.paper("UP " + v, x, 9, more, 18, more);
        }
    }

    /** LINES lead from step to step as these are with the BENT lever. */
    private static void bentAtTheTop() {
        CamFigures x = figure(1, 0, 0, 0);
        x.cutAt(1, 0, 9);
        x.cutAt(1, 1, 6);
        x.fault(3, 1);
        x.show();
        due.paper("9 stays, 6 becomes 7", x, 0, 9, 0, 8, 0, 7);
        x.cutAt(1, 0, 8);
        x.cutAt(1, 1, 9);
        x.show();
        due.paper("both are 9", x, 0, 9);
        x.fault(3, 0);
        x.cutAt(0, 1, 3);
        x.show();
        due.paper("a LINE one more across", x, 1, 8, 2, 8, 3, 9, 4, 9);
    }

    /** "Of each KIND one at most is told", "in place of the one of that KIND". */
    private static void oneOfEachKind() {
        CamFigures x = figure(3, 5, 5, 0);
        for (int kind = 1; kind <= 3; kind++) {
            due.is("one", x.fault(kind, 0), 1);
            due.is("FAULTS", x.count(10), kind);
            due.is("another", x.fault(kind, 1), 1);
            due.is("FAULTS", x.count(10), kind);
        }
        x.show();
        due.paper("UP WORN, PEG 1 LOOSE, Y BENT", x, 5, 5, 23, 5);
        x.fault(1, 0);
        x.show();
        due.paper("ACROSS WORN in place of UP", x, 4, 6, 22, 6);
        x.fault(2, 0);
        x.show();
        due.paper("PEG 0 LOOSE in place of PEG 1", x, 13, 6, 22, 6);
        x.fault(3, 0);
        x.show();
        due.paper("X BENT in place of Y", x, 14, 5, 23, 5);
        due.is("mend", x.mend(), 3);
    }

    /** A lever is BENT by what the WORN CAM tells: first one less, then one more. */
    private static void allThreeAtOnce() {
        int[] ups = {0, 1, 8, 9};
        int[] heights = {1, 1, 8, 9};
        for (int i = 0; i < ups.length; i++) {
            CamFigures x = figure(2, 0, ups[i], 0);
            x.fault(1, 1);
            x.fault(2, 0);
            x.fault(3, 1);
            x.show();
            due.paper("UP " + ups[i], x, 9, heights[i]);
        }
    }

    /** "they hold for SHOWS": for each until they are mended. */
    private static void faultsHoldForShows() {
        CamFigures x = figure(1, 5, 5, 0);
        x.fault(3, 0);
        for (int i = 0; i < 5; i++) {
            x.show();
            due.paper("X BENT", x, 6, 5);
        }
        due.is("mend", x.mend(), 1);
        due.paper("the PAPER stays", x, 6, 5);
        x.show();
        due.paper("mended", x, 5, 5);
        due.is("mend again", x.mend(), 0);
    }

    /** FAULTS are mended by mend alone. */
    private static void faultsStayTold() {
        CamFigures x = figure(2, 5, 5, 0);
        x.fault(1, 0);
        x.fault(2, 1);
        x.fault(3, 1);
        x.length(4);
        x.unpeg();
        x.unpeg();
        x.blank(0);
        x.lose(0);
        x.show();
        due.is("FAULTS", x.count(10), 3);
        due.is("mend", x.mend(), 3);
        due.is("FAULTS", x.count(10), 0);
    }

    /** "0 if it is so without FAULT"; "1 which (-9 without)". */
    private static void noFaultExplains() {
        explained("a new object", new CamFigures(), 0, -9);
        CamFigures x = figure(1, 5, 5, 0);
        explained("not yet written", x, 2, 0);
        x.show();
        explained("written", x, 0, -9);
        x.fault(2, 0);
        x.show();
        explained("nothing was written", x, 2, 0);
    }

    /** The MESSAGE is held against the PAPER without the FAULTS that are told. */
    private static void faultsToldDoNotExplain() {
        CamFigures x = figure(2, 5, 5, 0);
        x.show();
        x.fault(1, 0);
        x.fault(2, 1);
        x.fault(3, 0);
        explained("FAULTS are told after the SHOW", x, 0, -9);
        x.mend();
        x.fault(3, 1);
        x.show();
        x.mend();
        explained("mended after the SHOW", x, 3, 1);
        due.is("FAULTS are as they were", x.count(10), 0);
    }

    /** "1 WORN (the least CAM)": each CAM, and the least of those that write the same. */
    private static void theLeastCam() {
        for (int cam = 0; cam < 12; cam++) {
            CamFigures x = figure(1, 5, 5, 0);
            int lift = cam == 2 ? 3 : 2;
            Due.cut(x, cam, 5, 5);
            Due.cut(x, lift, 0, 0);
            x.blank(11 - cam);
            int up = 11 - cam;
            x.letter(0, cam, up, lift);
            x.fault(1, cam);
            x.show();
            explained("CAM " + cam, x, 1, cam);
        }
        CamFigures x = figure(1, 5, 0, 0);
        Due.cut(x, 3, 5, 5);
        x.letter(1, 3, 1, 2);
        x.peg(1);
        x.advance(0);
        x.see(4, 0, true);
        x.see(5, 0, true);
        explained("CAM 0 or CAM 3", x, 1, 0);
    }

    /** "2 LOOSE (the least PEG)". */
    private static void eachPegExplains() {
        for (int loose = 0; loose < 12; loose++) {
            CamFigures x = figure(12, 5, 5, 0);
            x.fault(2, loose);
            x.show();
            explained("PEG " + loose, x, 2, loose);
        }
    }

    /** "3 BENT (X, then Y)". */
    private static void eachLeverExplains() {
        for (int lever = 0; lever <= 1; lever++) {
            CamFigures x = figure(12, 5, 5, 0);
            x.fault(3, lever);
            x.show();
            explained("LEVER " + lever, x, 3, lever);
        }
    }

    /** "by the first of": two FAULTS that would write the same. */
    private static void kindsInTheirOrder() {
        CamFigures x = figure(1, 0, 0, 0);
        Due.cut(x, 3, 1, 1);
        x.letter(1, 3, 1, 2);
        x.peg(1);
        x.advance(0);
        x.see(0, 0, true);
        explained("CAM 3 WORN or PEG 1 LOOSE", x, 1, 3);
        x = figure(1, 0, 8, 0);
        Due.cut(x, 3, 9, 9);
        x.letter(1, 0, 3, 2);
        x.peg(1);
        x.advance(0);
        x.see(0, 9, true);
        explained("PEG 0 LOOSE or Y BENT", x, 2, 0);
        x = figure(1, 0, 0, 1);
        explained("nothing is written: no FAULT ahead of all", x, 0, -9);
    }

    /** "-9 no such one". */
    private static void noSuchOne() {
        CamFigures x = figure(2, 5, 5, 0);
        x.fault(2, 0);
        x.fault(3, 0);
        x.show();
        explained("two FAULTS at once", x, -9, -9);
        x.mend();
        x.show();
        x.see(119, 9, true);
        explained("a CELL too many", x, -9, -9);
        x.see(119, 9, false);
        explained("as it was", x, 0, -9);
        x.see(5, 5, false);
        explained("a CELL too few: PEG 0 LOOSE", x, 2, 0);
        x.see(14, 5, false);
        explained("none is left", x, -9, -9);
        CamFigures y = new CamFigures();
        y.see(0, 0, true);
        explained("a mark without PEGS", y, -9, -9);
        for (int cam = 0; cam < 12; cam++) {
            y.blank(cam);
        }
        explained("CAMS without PEGS", y, -9, -9);
    }

    /** "by the MESSAGE and CAMS as they are now". */
    private static void asTheyAreNow() {
        CamFigures x = figure(2, 5, 5, 0);
        x.show();
        x.cutAt(0, 0, 6);
        x.cutAt(0, 1, 6);
        explained("CAM 0 is one more now", x, 1, 0);
        x.cutAt(0, 0, 4);
        x.cutAt(0, 1, 4);
        explained("one less", x, 3, 0);
        x.letter(0, 1, 1, 2);
        explained("by CAM 1 across", x, 0, -9);
        x.peg(0);
        explained("a PEG more", x, 2, 2);
        x.unpeg();
        x.unpeg();
        explained("a PEG less", x, -9, -9);
        x.peg(0);
        x.advance(8);
        explained("another ADVANCE", x, -9, -9);
        x.lose(2);
        due.is("a CAM less", x.explained(0), -3);
        due.is("a CAM less", x.explained(1), -3);
    }

    /** "written to its end": the SPRING does not matter, nor does it tire. */
    private static void writtenToItsEnd() {
        CamFigures x = figure(2, 5, 5, 0);
        x.pull(20);
        for (int i = 0; i < 12; i++) {
            x.show();
        }
        due.is("it STOPS", x.show(), 2);
        due.is("POWER", x.count(3), 0);
        due.paper("PEG 0 alone", x, 5, 5);
        explained("as if PEG 1 were LOOSE", x, 2, 1);
        x.see(14, 5, true);
        explained("as if it was done", x, 0, -9);
        due.is("steps", x.count(7), 50);
        due.is("SHOWS", x.count(8), 13);
        due.is("DONE", x.count(9), 12);
    }
}
