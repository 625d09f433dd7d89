/** Promises 11 to 15: LETTERS, PEGS, ADVANCE. */
public final class MessageTest {
    private static final Due due = new Due();

    public static void main(String[] args) {
        letter();
        isCut();
        peg();
        unpeg();
        advance();
        due.end();
    }

    private static void letter() {
        CamFigures x = new CamFigures();
        due.is("CAMS may be MISSING", x.letter(0, 11, 10, 9), 1);
        due.is("the last LETTER", x.letter(9, 0, 0, 11), 1);
        due.is("-1 LETTER", x.letter(10, 0, 0, 0), -1);
        due.is("-1 LETTER below", x.letter(-1, 0, 0, 0), -1);
        due.is("-1 ACROSS", x.letter(0, 12, 0, 0), -1);
        due.is("-1 ACROSS below", x.letter(0, -1, 0, 0), -1);
        due.is("-1 UP", x.letter(0, 0, 12, 0), -1);
        due.is("-1 UP below", x.letter(0, 0, -1, 0), -1);
        due.is("-1 LIFT", x.letter(0, 0, 0, 12), -1);
        due.is("-1 LIFT below", x.letter(0, 0, 0, -1), -1);
        for (int far : Due.FAR) {
            due.is("far LETTER", x.letter(far, 0, 0, 0), -1);
            due.is("far ACROSS", x.letter(0, far, 0, 0), -1);
            due.is("far UP", x.letter(0, 0, far, 0), -1);
            due.is("far LIFT", x.letter(0, 0, 0, far), -1);
        }
        due.refusals(x, 32, 0, 0, 0, 0, 0, 0);
        x.blank(0);
        due.is("a refused letter leaves its CAMS", x.isCut(0), 0);
        x.blank(9);
        x.blank(10);
        x.blank(11);
        due.is("its CAMS are there", x.isCut(0), 1);
        cellOfLetter(x);
    }

    /** Which CAM does what. */
    private static void cellOfLetter(CamFigures x) {
        x.length(2);
        Due.cut(x, 1, 3, 3);
        Due.cut(x, 2, 7, 7);
        Due.cut(x, 3, 0, 1);
        x.letter(4, 1, 2, 3);
        x.peg(4);
        x.wind(100);
        due.is("show", x.show(), 2);
        due.paper("ACROSS, UP, LIFT", x, 3, 7);
        x.letter(4, 2, 1, 3);
        x.show();
        due.paper("told anew, of a PEG that is set", x, 7, 3);
    }

    private static void isCut() {
        CamFigures x = new CamFigures();
        x.letter(5, 1, 2, 3);
        for (int there = 0; there < 8; there++) {
            for (int i = 0; i < 3; i++) {
                x.lose(i + 1);
                if ((there >> i & 1) == 1) {
                    x.blank(i + 1);
                }
            }
            due.is("isCut(5) with " + there, x.isCut(5), there == 7 ? 1 : 0);
        }
        CamFigures y = new CamFigures();
        due.is("isCut(-1)", y.isCut(-1), -1);
        due.is("isCut(10)", y.isCut(10), -1);
        for (int far : Due.FAR) {
            due.is("isCut(" + far + ")", y.isCut(far), -1);
        }
        due.refusals(y, 8, 0, 0, 0, 0, 0, 0);
    }

    private static void peg() {
        CamFigures x = new CamFigures();
        due.is("peg(-1)", x.peg(-1), -1);
        due.is("peg(10)", x.peg(10), -1);
        for (int n = 1; n <= 12; n++) {
            due.is("a LETTER that isn't CUT", x.peg(n % 10), n);
            due.is("PEGS", x.count(2), n);
        }
        due.is("the thirteenth", x.peg(9), -6);
        due.is("-1 ahead of -6", x.peg(10), -1);
        for (int far : Due.FAR) {
            due.is("peg(" + far + ")", x.peg(far), -1);
        }
        due.is("PEGS", x.count(2), 12);
        due.refusals(x, 9, 0, 0, 0, 0, 1, 0);
    }

    private static void unpeg() {
        CamFigures x = new CamFigures();
        due.is("none", x.unpeg(), -3);
        x.length(2);
        Due.cut(x, 0, 0, 0);
        Due.cut(x, 1, 4, 4);
        x.letter(0, 0, 0, 0);
        x.letter(1, 1, 1, 0);
        x.peg(0);
        x.peg(1);
        x.peg(0);
        due.is("unpeg", x.unpeg(), 2);
        x.wind(100);
        x.show();
        due.paper("the last one is out", x, 0, 0, 9, 4);
        due.is("unpeg", x.unpeg(), 1);
        due.is("unpeg", x.unpeg(), 0);
        due.is("none", x.unpeg(), -3);
        due.is("PEGS", x.count(2), 0);
        due.refusals(x, 0, 0, 2, 0, 0, 0, 0);
    }

    private static void advance() {
        CamFigures x = new CamFigures();
        x.length(2);
        x.blank(0);
        x.peg(0);
        x.peg(0);
        x.peg(0);
        x.wind(1000);
        x.show();
        due.paper("ADVANCE 5", x, 0, 0, 5, 0, 10, 0);
        due.is("advance(9)", x.advance(9), 5);
        x.show();
        due.paper("ADVANCE 9", x, 0, 0, 9, 0, 18, 0);
        due.is("advance(0)", x.advance(0), 9);
        x.show();
        due.paper("ADVANCE 0", x, 0, 0);
        due.is("advance(-1)", x.advance(-1), -4);
        due.is("advance(10)", x.advance(10), -6);
        for (int far : Due.FAR) {
            due.is("advance(" + far + ")", x.advance(far), far < 0 ? -4 : -6);
        }
        due.is("advance(1)", x.advance(1), 0);
        due.refusals(x, 0, 0, 0, 5, 0, 3, 0);
    }
}
