/** Promises 1 to 10: a new object, LENGTH, CAMS, and which CAMS are one another turned. */
public final class CamsTest {
    private static final Due due = new Due();

    public static void main(String[] args) {
        newObject();
        length();
        lengthStartsAnew();
        blank();
        lose();
        cutAt();
        height();
        copy();
        copyOntoItself();
        copyBeyond();
        turn();
        blanks();
        blanksAreNumbered();
        turned();
        smooth();
        camOfRefuses();
        due.end();
    }

    private static void newObject() {
        CamFigures x = new CamFigures();
        due.is("new: LENGTH", x.count(0), 8);
        for (int what = 1; what <= 17; what++) {
            due.is("new: count(" + what + ")", x.count(what), 0);
        }
        for (int cam = 0; cam < 12; cam++) {
            due.is("new: lose", x.lose(cam), -5);
        }
        for (int l = 0; l < 10; l++) {
            due.is("new: isCut", x.isCut(l), 0);
        }
        x.blank(0);
        for (int l = 0; l < 10; l++) {
            due.is("new: all CAMS of a LETTER are 0", x.isCut(l), 1);
        }
        due.is("new: marks", x.marks(), 0);
        for (int cx = 0; cx < 120; cx++) {
            due.is("new: marked", x.marked(cx, cx % 10), 0);
        }
        due.is("new: advance", x.advance(0), 5);
        due.is("new: pull", x.pull(1), 2);
        due.is("new: unpeg", x.unpeg(), -3);
        due.is("new: mend", x.mend(), 0);
        due.is("new: whose", x.whose(0), -9);
        due.is("new: blanks", x.blanks(), 1);
        due.is("new: wind(0)", x.wind(0), 0);
        due.is("objects are apart", new CamFigures().count(1), 0);
    }

    private static void length() {
        CamFigures x = new CamFigures();
        due.is("length(2)", x.length(2), 8);
        due.is("length(16)", x.length(16), 2);
        due.is("length(1)", x.length(1), -4);
        due.is("length(0)", x.length(0), -4);
        due.is("length(17)", x.length(17), -6);
        for (int far : Due.FAR) {
            due.is("length(" + far + ")", x.length(far), far < 0 ? -4 : -6);
        }
        due.is("LENGTH", x.count(0), 16);
        due.refusals(x, 0, 0, 0, 6, 0, 3, 0);
    }

    private static void lengthStartsAnew() {
        CamFigures x = new CamFigures();
        for (int cam = 0; cam < 12; cam++) {
            x.blank(cam);
        }
        x.see(5, 5, true);
        x.see(119, 9, true);
        x.peg(3);
        x.wind(70);
        x.fault(3, 1);
        x.letter(3, 4, 5, 6);
        due.is("a refused length", x.length(99), -6);
        due.is("leaves CAMS", x.count(1), 12);
        due.is("leaves marks", x.marks(), 2);
        due.is("length(8)", x.length(8), 8);
        due.is("CAMS", x.count(1), 0);
        due.paper("after length", x);
        due.is("first", x.first(5, 5, 0), -9);
        due.is("PEGS stay", x.count(2), 1);
        due.is("POWER stays", x.count(3), 70);
        due.is("FAULTS stay", x.count(10), 1);
        x.blank(4);
        x.blank(5);
        due.is("isCut(3)", x.isCut(3), 0);
        x.blank(6);
        due.is("LETTERS keep their CAMS", x.isCut(3), 1);
    }

    private static void blank() {
        CamFigures x = new CamFigures();
        due.is("blank(11)", x.blank(11), 1);
        due.is("CAMS", x.count(1), 1);
        due.heights(x, 11, 0, 0, 0, 0, 0, 0, 0, 0, -7);
        Due.cut(x, 11, 1, 2, 3, 4, 5, 6, 7, 8);
        due.is("blank(11) again", x.blank(11), 0);
        due.heights(x, 11, 0, 0, 0, 0, 0, 0, 0, 0);
        Due.cut(x, 11, 1, 2, 3, 4, 5, 6, 7, 8);
        x.lose(11);
        due.is("blank(11) after lose", x.blank(11), 1);
        due.heights(x, 11, 0, 0, 0, 0, 0, 0, 0, 0);
        Due.cut(x, 11, 1, 2, 3, 4, 5, 6, 7, 8);
        x.length(16);
        due.is("blank(11) after length", x.blank(11), 1);
        due.heights(x, 11, 0, 0, 0, 0, 0, 0, 0, 0, 0, 0, 0, 0, 0, 0, 0, 0);
        due.is("blank(-1)", x.blank(-1), -1);
        due.is("blank(12)", x.blank(12), -1);
        for (int far : Due.FAR) {
            due.is("blank(" + far + ")", x.blank(far), -1);
        }
        due.is("CAMS", x.count(1), 1);
        due.refusals(x, 8, 0, 0, 0, 0, 0, 1);
    }

    private static void lose() {
        CamFigures x = new CamFigures();
        x.blank(0);
        x.blank(11);
        due.is("lose(11)", x.lose(11), 1);
        due.is("CAMS", x.count(1), 1);
        due.is("lose(11) again", x.lose(11), -5);
        due.is("lose(0)", x.lose(0), 1);
        due.is("lose(-1)", x.lose(-1), -1);
        due.is("lose(12)", x.lose(12), -1);
        for (int far : Due.FAR) {
            due.is("lose(" + far + ")", x.lose(far), -1);
        }
        due.is("CAMS", x.count(1), 0);
        due.refusals(x, 8, 0, 0, 0, 1, 0, 0);
    }

    private static void cutAt() {
        CamFigures x = new CamFigures();
        x.length(3);
        x.blank(4);
        due.is("cutAt(4, 0, 9)", x.cutAt(4, 0, 9), 0);
        due.is("cutAt(4, 0, 7)", x.cutAt(4, 0, 7), 9);
        due.is("cutAt(4, 2, 1)", x.cutAt(4, 2, 1), 0);
        due.is("cutAt(4, 2, 0)", x.cutAt(4, 2, 0), 1);
        due.is("-1 ahead of all", x.cutAt(12, 3, 10), -1);
        due.is("-1 below", x.cutAt(-1, 3, -1), -1);
        due.is("-5 ahead of -7", x.cutAt(5, 3, 10), -5);
        due.is("-7 ahead of -4", x.cutAt(4, 3, -1), -7);
        due.is("-7 ahead of -6", x.cutAt(4, -1, 10), -7);
        due.is("-4", x.cutAt(4, 1, -1), -4);
        due.is("-6", x.cutAt(4, 1, 10), -6);
        for (int far : Due.FAR) {
            due.is("far CAM", x.cutAt(far, 0, 0), -1);
            due.is("far step", x.cutAt(4, far, 0), -7);
            due.is("far height", x.cutAt(4, 0, far), far < 0 ? -4 : -6);
        }
        due.heights(x, 4, 7, 0, 0);
        due.refusals(x, 8, 0, 0, 5, 1, 3, 8);
    }

    private static void height() {
        CamFigures x = new CamFigures();
        x.length(2);
        Due.cut(x, 0, 3, 8);
        due.is("height(0, 0)", x.height(0, 0), 3);
        due.is("height(0, 1)", x.height(0, 1), 8);
        due.is("-7", x.height(0, 2), -7);
        due.is("-7 below", x.height(0, -1), -7);
        due.is("-5 ahead of -7", x.height(1, 2), -5);
        due.is("-1 ahead of -7", x.height(12, 2), -1);
        for (int far : Due.FAR) {
            due.is("far CAM", x.height(far, 0), -1);
            due.is("far step", x.height(0, far), -7);
        }
        due.refusals(x, 7, 0, 0, 0, 1, 0, 8);
    }

    private static void copy() {
        CamFigures x = new CamFigures();
        x.length(5);
        Due.cut(x, 0, 1, 2, 3, 4, 5);
        Due.cut(x, 1, 9, 9, 9, 9, 9);
        due.is("copy(0, 1, 1, 2, 3)", x.copy(0, 1, 1, 2, 3), 3);
        due.heights(x, 1, 9, 9, 2, 3, 4);
        due.heights(x, 0, 1, 2, 3, 4, 5);
        due.is("copy all", x.copy(0, 0, 1, 0, 5), 5);
        due.heights(x, 1, 1, 2, 3, 4, 5);
        due.is("copy none at the end", x.copy(0, 5, 1, 5, 0), 0);
        due.is("copy none", x.copy(0, 0, 1, 5, 0), 0);
        due.heights(x, 1, 1, 2, 3, 4, 5);
    }

    private static void copyOntoItself() {
        CamFigures x = new CamFigures();
        x.length(5);
        Due.cut(x, 0, 1, 2, 3, 4, 5);
        due.is("copy upwards", x.copy(0, 0, 0, 1, 4), 4);
        due.heights(x, 0, 1, 1, 2, 3, 4);
        Due.cut(x, 0, 1, 2, 3, 4, 5);
        due.is("copy downwards", x.copy(0, 1, 0, 0, 4), 4);
        due.heights(x, 0, 2, 3, 4, 5, 5);
    }

    private static void copyBeyond() {
        CamFigures x = new CamFigures();
        x.length(5);
        Due.cut(x, 0, 1, 2, 3, 4, 5);
        x.blank(1);
        due.is("-1 of a ahead of -5", x.copy(12, 9, 2, 9, -1), -1);
        due.is("-1 of b ahead of -5", x.copy(2, 9, -1, 9, -1), -1);
        due.is("-5 of a ahead of -7", x.copy(2, 9, 1, 0, 1), -5);
        due.is("-5 of b ahead of -7", x.copy(0, 0, 2, 0, -1), -5);
        due.is("n below 0", x.copy(0, 1, 1, 1, -1), -7);
        due.is("i below 0", x.copy(0, -1, 1, 0, 1), -7);
        due.is("j below 0", x.copy(0, 0, 1, -1, 1), -7);
        due.is("i not round", x.copy(0, 3, 1, 0, 3), -7);
        due.is("j not round", x.copy(0, 0, 1, 3, 3), -7);
        due.is("n above LENGTH", x.copy(0, 0, 1, 0, 6), -7);
        due.is("i beyond the end", x.copy(0, 6, 1, 0, 0), -7);
        due.is("j beyond the end", x.copy(0, 0, 1, 6, 0), -7);
        for (int far : Due.FAR) {
            due.is("far a", x.copy(far, 0, 1, 0, 1), -1);
            due.is("far i", x.copy(0, far, 1, 0, 1), -7);
            due.is("far b", x.copy(0, 0, far, 0, 1), -1);
            due.is("far j", x.copy(0, 0, 1, far, 1), -7);
            due.is("far n", x.copy(0, 1, 1, 1, far), -7);
            due.is("far all", x.copy(0, far, 1, far, far), -7);
        }
        due.heights(x, 1, 0, 0, 0, 0, 0);
        due.refusals(x, 14, 0, 0, 0, 2, 0, 32);
    }

    private static void turn() {
        CamFigures x = new CamFigures();
        x.length(5);
        Due.cut(x, 3, 1, 2, 3, 4, 5);
        due.is("turn(3, 2)", x.turn(3, 2), 1);
        due.heights(x, 3, 4, 5, 1, 2, 3);
        due.is("turn(3, 0)", x.turn(3, 0), 1);
        due.heights(x, 3, 4, 5, 1, 2, 3);
        due.is("turn(3, 4)", x.turn(3, 4), 1);
        due.heights(x, 3, 5, 1, 2, 3, 4);
        due.is("turn by LENGTH", x.turn(3, 5), -7);
        due.is("turn below 0", x.turn(3, -1), -7);
        due.is("-5 ahead of -7", x.turn(2, 5), -5);
        due.is("-1 ahead of -7", x.turn(12, 5), -1);
        due.is("-1 below", x.turn(-1, 0), -1);
        for (int far : Due.FAR) {
            due.is("far CAM", x.turn(far, 0), -1);
            due.is("far n", x.turn(3, far), -7);
        }
        due.heights(x, 3, 5, 1, 2, 3, 4);
        due.refusals(x, 8, 0, 0, 0, 1, 0, 8);
    }

    private static void blanks() {
        CamFigures x = new CamFigures();
        x.length(4);
        due.is("no CAMS", x.blanks(), 0);
        Due.cut(x, 11, 1, 2, 3, 4);
        due.is("one", x.blanks(), 1);
        Due.cut(x, 0, 3, 4, 1, 2);
        due.is("turned", x.blanks(), 1);
        Due.cut(x, 5, 4, 3, 2, 1);
        due.is("mirrored is another", x.blanks(), 2);
        Due.cut(x, 6, 1, 3, 2, 4);
        due.is("same heights in another order", x.blanks(), 3);
        x.cutAt(11, 0, 9);
        due.is("no longer turned", x.blanks(), 4);
        x.lose(6);
        due.is("one lost", x.blanks(), 3);
        for (int cam = 0; cam < 12; cam++) {
            Due.cut(x, cam, cam % 10, 0, cam / 10, 0);
        }
        due.is("twelve", x.blanks(), 11);
    }

    private static void blanksAreNumbered() {
        CamFigures x = new CamFigures();
        x.length(3);
        Due.cut(x, 2, 1, 0, 0);
        Due.cut(x, 4, 2, 0, 0);
        Due.cut(x, 5, 0, 1, 0);
        Due.cut(x, 7, 3, 0, 0);
        Due.cut(x, 9, 0, 0, 2);
        Due.cut(x, 11, 0, 3, 0);
        int[] cams = {2, 4, 5, 7, 9, 11};
        int[] blanks = {0, 1, 0, 2, 1, 2};
        for (int i = 0; i < cams.length; i++) {
            due.is("camOf(" + cams[i] + ", 0)", x.camOf(cams[i], 0), blanks[i]);
        }
        x.lose(2);
        int[] later = {0, 1, 2, 0, 2};
        for (int i = 0; i < later.length; i++) {
            due.is("after lose: camOf(" + cams[i + 1] + ", 0)", x.camOf(cams[i + 1], 0), later[i]);
        }
    }

    private static void turned() {
        CamFigures x = new CamFigures();
        x.length(6);
        Due.cut(x, 1, 1, 2, 3, 4, 5, 6);
        Due.cut(x, 8, 3, 4, 5, 6, 1, 2);
        due.is("the least CAM", x.camOf(1, 1), 0);
        due.is("four on", x.camOf(8, 1), 4);
        x.turn(8, 1);
        due.is("five on", x.camOf(8, 1), 5);
        x.lose(1);
        due.is("now the least", x.camOf(8, 1), 0);
        Due.cut(x, 0, 7, 0, 7, 0, 7, 0);
        Due.cut(x, 3, 0, 7, 0, 7, 0, 7);
        due.is("the least number of three", x.camOf(3, 1), 1);
        Due.cut(x, 3, 7, 0, 7, 0, 7, 0);
        due.is("the same", x.camOf(3, 1), 0);
        due.is("the same BLANK", x.camOf(3, 0), 0);
        due.is("two BLANKS", x.blanks(), 2);
    }

    private static void smooth() {
        CamFigures x = new CamFigures();
        x.length(4);
        Due.cut(x, 0, 0, 2, 5, 4);
        due.is("the last and the first", x.camOf(0, 2), 4);
        Due.cut(x, 0, 3, 2, 7, 4);
        due.is("up", x.camOf(0, 2), 5);
        Due.cut(x, 0, 4, 9, 2, 4);
        due.is("down", x.camOf(0, 2), 7);
        Due.cut(x, 0, 9, 0, 9, 0);
        due.is("most", x.camOf(0, 2), 9);
        Due.cut(x, 0, 0, 8, 5, 3);
        due.is("the first and the next", x.camOf(0, 2), 8);
        Due.cut(x, 0, 5, 5, 5, 5);
        due.is("flat", x.camOf(0, 2), 0);
        x.length(2);
        Due.cut(x, 0, 8, 2);
        due.is("two steps", x.camOf(0, 2), 6);
        x.length(16);
        Due.cut(x, 0, 9, 9, 9, 9, 9, 9, 9, 9, 9, 9, 9, 9, 9, 9, 9, 1);
        due.is("sixteen steps", x.camOf(0, 2), 8);
    }

    private static void camOfRefuses() {
        CamFigures x = new CamFigures();
        x.blank(2);
        due.is("-1 ahead of -2", x.camOf(12, 3), -1);
        due.is("-1 below", x.camOf(-1, 0), -1);
        due.is("-5 ahead of -2", x.camOf(1, 3), -5);
        due.is("-2", x.camOf(2, 3), -2);
        due.is("-2 below", x.camOf(2, -1), -2);
        for (int far : Due.FAR) {
            due.is("far CAM", x.camOf(far, 0), -1);
            due.is("far what", x.camOf(2, far), -2);
        }
        due.refusals(x, 8, 8, 0, 0, 1, 0, 0);
    }
}
