/**
 * REFUSALS: "the call answers the number, the first that fits in the order in which it tells them; nothing
 * changes but how many there were". Each refusal of each call, at both sides of each bound and far beyond,
 * and for each two that fit at once, which is told.
 */
public final class RefusalsTest {
    private static final Due due = new Due();
    private static final Twins full = new Twins(due, Scenes::full);
    private static final Twins fullOfPegs = new Twins(due, Scenes::fullOfPegs);
    private static final Twins withoutPegs = new Twins(due, Scenes::withoutPegs);
    private static final Twins notCut = new Twins(due, Scenes::notCut);
    private static final Twins fullMaker = new Twins(due, Scenes::fullMaker);
    private static final Twins bare = new Twins(due, Scenes::bare);

    private static final int LEAST = Integer.MIN_VALUE;
    private static final int MOST = Integer.MAX_VALUE;
    private static final int[] NO_CAMS = {-1, 12, LEAST, MOST};
    private static final int[] NO_LETTERS = {-1, 10, LEAST, MOST};
    private static final int[] NO_MAKERS = {-1, 4, LEAST, MOST};
    private static final int[] NO_STEPS = {-1, 3, LEAST, MOST};
    private static final int[] NO_COLUMNS = {-1, 120, LEAST, MOST};
    private static final int[] NO_ROWS = {-1, 10, LEAST, MOST};
    private static final int[] MISSING_CAMS = {6, 7, 8, 9, 10};

    public static void main(String[] args) {
        length();
        blank();
        lose();
        cutAt();
        cutAtOrder();
        height();
        copyNobody();
        copyMissing();
        copyBeyond();
        turn();
        camOf();
        letter();
        isCut();
        peg();
        unpeg();
        advance();
        pull();
        wind();
        show();
        marked();
        first();
        see();
        fault();
        explained();
        made();
        like();
        whose();
        due.end();
    }

    private static void length() {
        for (int n : new int[] {1, 0, -1, LEAST}) {
            full.refused("length(" + n + ")", -4, x -> x.length(n));
        }
        for (int n : new int[] {17, MOST}) {
            full.refused("length(" + n + ")", -6, x -> x.length(n));
        }
    }

    private static void blank() {
        for (int cam : NO_CAMS) {
            full.refused("blank(" + cam + ")", -1, x -> x.blank(cam));
        }
    }

    private static void lose() {
        for (int cam : NO_CAMS) {
            full.refused("lose(" + cam + ")", -1, x -> x.lose(cam));
        }
        for (int cam : MISSING_CAMS) {
            full.refused("lose(" + cam + ")", -5, x -> x.lose(cam));
        }
    }

    private static void cutAt() {
        for (int cam : NO_CAMS) {
            full.refused("cutAt(" + cam + ", 0, 1)", -1, x -> x.cutAt(cam, 0, 1));
        }
        for (int cam : MISSING_CAMS) {
            full.refused("cutAt(" + cam + ", 0, 1)", -5, x -> x.cutAt(cam, 0, 1));
        }
        for (int step : NO_STEPS) {
            full.refused("cutAt(0, " + step + ", 9)", -7, x -> x.cutAt(0, step, 9));
        }
        for (int v : new int[] {-1, LEAST}) {
            full.refused("cutAt(0, 2, " + v + ")", -4, x -> x.cutAt(0, 2, v));
        }
        for (int v : new int[] {10, MOST}) {
            full.refused("cutAt(0, 2, " + v + ")", -6, x -> x.cutAt(0, 2, v));
        }
    }

    private static void cutAtOrder() {
        for (int step : NO_STEPS) {
            full.refused("-1 ahead of -7", -1, x -> x.cutAt(12, step, 0));
            full.refused("-5 ahead of -7", -5, x -> x.cutAt(6, step, 0));
            full.refused("-7 ahead of -4", -7, x -> x.cutAt(0, step, -1));
            full.refused("-7 ahead of -6", -7, x -> x.cutAt(0, step, 10));
        }
        full.refused("-1 ahead of -4", -1, x -> x.cutAt(-1, 0, -1));
        full.refused("-1 ahead of -6", -1, x -> x.cutAt(-1, 0, 10));
        full.refused("-5 ahead of -4", -5, x -> x.cutAt(6, 0, -1));
        full.refused("-5 ahead of -6", -5, x -> x.cutAt(6, 0, 10));
    }

    private static void height() {
        for (int cam : NO_CAMS) {
            full.refused("height(" + cam + ", 0)", -1, x -> x.height(cam, 0));
            full.refused("-1 ahead of -7", -1, x -> x.height(cam, 3));
        }
        for (int cam : MISSING_CAMS) {
            full.refused("height(" + cam + ", 0)", -5, x -> x.height(cam, 0));
            full.refused("-5 ahead of -7", -5, x -> x.height(cam, 3));
        }
        for (int step : NO_STEPS) {
            full.refused("height(0, " + step + ")", -7, x -> x.height(0, step));
        }
    }

    private static void copyNobody() {
        for (int cam : NO_CAMS) {
            full.refused("copy of a " + cam, -1, x -> x.copy(cam, 0, 1, 0, 1));
            full.refused("copy of b " + cam, -1, x -> x.copy(0, 0, cam, 0, 1));
            full.refused("-1 of a ahead of -5 of b", -1, x -> x.copy(cam, 0, 6, 0, 1));
            full.refused("-1 of b ahead of -5 of a", -1, x -> x.copy(6, 0, cam, 0, 1));
            full.refused("-1 of a ahead of -7", -1, x -> x.copy(cam, 3, 1, 3, 1));
            full.refused("-1 of b ahead of -7", -1, x -> x.copy(0, 0, cam, 0, -1));
        }
    }

    private static void copyMissing() {
        for (int cam : MISSING_CAMS) {
            full.refused("copy of a " + cam, -5, x -> x.copy(cam, 0, 1, 0, 1));
            full.refused("copy of b " + cam, -5, x -> x.copy(0, 0, cam, 0, 1));
            full.refused("copy of none from a " + cam, -5, x -> x.copy(cam, 0, 1, 0, 0));
            full.refused("copy of none to b " + cam, -5, x -> x.copy(0, 0, cam, 0, 0));
            full.refused("-5 of a ahead of -7", -5, x -> x.copy(cam, 3, 1, 0, 1));
            full.refused("-5 of b ahead of -7", -5, x -> x.copy(0, 0, cam, 0, -1));
        }
    }

    private static void copyBeyond() {
        for (int n : new int[] {-1, -3, 4, LEAST, MOST}) {
            full.refused("copy of n " + n, -7, x -> x.copy(0, 0, 1, 0, n));
            full.refused("copy of n " + n + " from the end", -7, x -> x.copy(0, 3, 1, 3, n));
        }
        for (int step : new int[] {-1, 4, LEAST, MOST}) {
            full.refused("copy of none, i " + step, -7, x -> x.copy(0, step, 1, 0, 0));
            full.refused("copy of none, j " + step, -7, x -> x.copy(0, 0, 1, step, 0));
            full.refused("copy of one, i " + step, -7, x -> x.copy(0, step, 1, 0, 1));
            full.refused("copy of one, j " + step, -7, x -> x.copy(0, 0, 1, step, 1));
        }
        for (int step = 1; step <= 3; step++) {
            int from = step;
            full.refused("i " + from + " is not round", -7, x -> x.copy(0, from, 1, 0, 4 - from));
            full.refused("j " + from + " is not round", -7, x -> x.copy(0, 0, 1, from, 4 - from));
        }
        full.refused("a sum that wraps around", -7, x -> x.copy(0, MOST, 1, 0, MOST));
        full.refused("a sum that wraps around", -7, x -> x.copy(0, 0, 1, MOST, 1));
        full.refused("a sum that is in bounds", -7, x -> x.copy(0, 4, 1, 4, -1));
        full.refused("a sum that is in bounds", -7, x -> x.copy(0, -1, 1, 0, 2));
    }

    private static void turn() {
        for (int cam : NO_CAMS) {
            full.refused("turn(" + cam + ", 1)", -1, x -> x.turn(cam, 1));
            full.refused("-1 ahead of -7", -1, x -> x.turn(cam, 3));
        }
        for (int cam : MISSING_CAMS) {
            full.refused("turn(" + cam + ", 0)", -5, x -> x.turn(cam, 0));
            full.refused("-5 ahead of -7", -5, x -> x.turn(cam, -1));
        }
        for (int n : NO_STEPS) {
            full.refused("turn(0, " + n + ")", -7, x -> x.turn(0, n));
        }
    }

    private static void camOf() {
        for (int cam : NO_CAMS) {
            for (int what = 0; what <= 3; what++) {
                int asked = what;
                full.refused("camOf(" + cam + ", " + what + ")", -1, x -> x.camOf(cam, asked));
            }
        }
        for (int cam : MISSING_CAMS) {
            for (int what = 0; what <= 3; what++) {
                int asked = what;
                full.refused("camOf(" + cam + ", " + what + ")", -5, x -> x.camOf(cam, asked));
            }
        }
        for (int what : new int[] {-1, 3, LEAST, MOST}) {
            full.refused("camOf(0, " + what + ")", -2, x -> x.camOf(0, what));
        }
    }

    private static void letter() {
        for (int l : NO_LETTERS) {
            full.refused("letter(" + l + ", ..)", -1, x -> x.letter(l, 4, 4, 4));
        }
        for (int cam : NO_CAMS) {
            full.refused("letter: ACROSS " + cam, -1, x -> x.letter(0, cam, 4, 4));
            full.refused("letter: UP " + cam, -1, x -> x.letter(0, 4, cam, 4));
            full.refused("letter: LIFT " + cam, -1, x -> x.letter(0, 4, 4, cam));
        }
    }

    private static void isCut() {
        for (int l : NO_LETTERS) {
            full.refused("isCut(" + l + ")", -1, x -> x.isCut(l));
        }
    }

    private static void peg() {
        for (int l : NO_LETTERS) {
            full.refused("peg(" + l + ")", -1, x -> x.peg(l));
            fullOfPegs.refused("-1 ahead of -6", -1, x -> x.peg(l));
        }
        for (int l = 0; l <= 9; l++) {
            int letter = l;
            fullOfPegs.refused("peg(" + l + ") without room", -6, x -> x.peg(letter));
        }
    }

    private static void unpeg() {
        withoutPegs.refused("unpeg()", -3, x -> x.unpeg());
        bare.refused("unpeg() of a new one", -3, x -> x.unpeg());
    }

    private static void advance() {
        for (int n : new int[] {-1, LEAST}) {
            full.refused("advance(" + n + ")", -4, x -> x.advance(n));
        }
        for (int n : new int[] {10, MOST}) {
            full.refused("advance(" + n + ")", -6, x -> x.advance(n));
        }
    }

    private static void pull() {
        for (int n : new int[] {0, -1, LEAST}) {
            full.refused("pull(" + n + ")", -4, x -> x.pull(n));
        }
        for (int n : new int[] {21, MOST}) {
            full.refused("pull(" + n + ")", -6, x -> x.pull(n));
        }
    }

    private static void wind() {
        for (int n : new int[] {-1, LEAST}) {
            full.refused("wind(" + n + ")", -4, x -> x.wind(n));
        }
        for (int n : new int[] {5001, MOST}) {
            full.refused("wind(" + n + ")", -6, x -> x.wind(n));
        }
    }

    /** One that isn't CUT by each of its CAMS; the first, the middle, the last PEG; a LOOSE one, too. */
    private static void show() {
        notCut.refused("show()", -3, x -> x.show());
        for (int cam = 0; cam <= 5; cam++) {
            int lost = cam;
            Twins without = new Twins(due, x -> {
                Scenes.full(x);
                x.lose(lost);
            });
            without.refused("show() without CAM " + lost, -3, x -> x.show());
            without.refused("explained(0) without CAM " + lost, -3, x -> x.explained(0));
        }
        Twins loose = new Twins(due, x -> {
            Scenes.notCut(x);
            x.fault(2, 3);
        });
        loose.refused("show() with a LOOSE PEG that isn't CUT", -3, x -> x.show());
        Twins worn = new Twins(due, x -> {
            Scenes.notCut(x);
            x.fault(1, 7);
        });
        worn.refused("show() with a WORN CAM that is MISSING", -3, x -> x.show());
    }

    private static void marked() {
        for (int cx : NO_COLUMNS) {
            full.refused("marked(" + cx + ", 0)", -1, x -> x.marked(cx, 0));
        }
        for (int cy : NO_ROWS) {
            full.refused("marked(0, " + cy + ")", -1, x -> x.marked(0, cy));
            full.refused("marked(119, " + cy + ")", -1, x -> x.marked(119, cy));
        }
    }

    private static void first() {
        for (int what = -1; what <= 2; what++) {
            int asked = what;
            for (int cx : NO_COLUMNS) {
                full.refused("first(" + cx + ", 9, " + what + ")", -1, x -> x.first(cx, 9, asked));
            }
            for (int cy : NO_ROWS) {
                full.refused("first(0, " + cy + ", " + what + ")", -1, x -> x.first(0, cy, asked));
            }
        }
        for (int what : new int[] {-1, 2, LEAST, MOST}) {
            full.refused("first of a marked CELL, " + what, -2, x -> x.first(119, 9, what));
            full.refused("first of a CELL without mark, " + what, -2, x -> x.first(119, 8, what));
        }
    }

    private static void see() {
        for (boolean on : new boolean[] {true, false}) {
            for (int cx : NO_COLUMNS) {
                full.refused("see(" + cx + ", 9, " + on + ")", -1, x -> x.see(cx, 9, on));
            }
            for (int cy : NO_ROWS) {
                full.refused("see(0, " + cy + ", " + on + ")", -1, x -> x.see(0, cy, on));
            }
        }
    }

    private static void fault() {
        for (int kind : new int[] {0, 4, -1, LEAST, MOST}) {
            full.refused("fault(" + kind + ", 0)", -2, x -> x.fault(kind, 0));
            full.refused("-2 ahead of -1", -2, x -> x.fault(kind, -1));
            full.refused("-2 ahead of -1", -2, x -> x.fault(kind, 12));
        }
        for (int a : NO_CAMS) {
            full.refused("fault(1, " + a + ")", -1, x -> x.fault(1, a));
        }
        for (int a : new int[] {-1, 3, 11, LEAST, MOST}) {
            full.refused("fault(2, " + a + ")", -1, x -> x.fault(2, a));
        }
        withoutPegs.refused("fault(2, 0) without PEGS", -1, x -> x.fault(2, 0));
        fullOfPegs.refused("fault(2, 12)", -1, x -> x.fault(2, 12));
        for (int a : new int[] {-1, 2, LEAST, MOST}) {
            full.refused("fault(3, " + a + ")", -1, x -> x.fault(3, a));
        }
    }

    private static void explained() {
        for (int what : new int[] {-1, 2, 3, LEAST, MOST}) {
            full.refused("explained(" + what + ")", -2, x -> x.explained(what));
            notCut.refused("-2 ahead of -3", -2, x -> x.explained(what));
        }
        notCut.refused("explained(0)", -3, x -> x.explained(0));
        notCut.refused("explained(1)", -3, x -> x.explained(1));
    }

    private static void made() {
        for (int cam : NO_CAMS) {
            full.refused("made(" + cam + ", 0)", -1, x -> x.made(cam, 0));
            fullMaker.refused("-1 ahead of -6", -1, x -> x.made(cam, 3));
        }
        for (int maker : NO_MAKERS) {
            full.refused("made(0, " + maker + ")", -1, x -> x.made(0, maker));
            full.refused("-1 ahead of -5", -1, x -> x.made(6, maker));
        }
        for (int cam : MISSING_CAMS) {
            full.refused("made(" + cam + ", 0)", -5, x -> x.made(cam, 0));
            fullMaker.refused("-5 ahead of -6", -5, x -> x.made(cam, 3));
        }
        fullMaker.refused("made(0, 3) without room", -6, x -> x.made(0, 3));
        fullMaker.refused("made(11, 3) without room", -6, x -> x.made(11, 3));
    }

    private static void like() {
        for (int cam : NO_CAMS) {
            full.refused("like(" + cam + ", 0)", -1, x -> x.like(cam, 0));
            full.refused("-1 ahead of -3", -1, x -> x.like(cam, 1));
        }
        for (int maker : NO_MAKERS) {
            full.refused("like(0, " + maker + ")", -1, x -> x.like(0, maker));
            full.refused("-1 ahead of -5", -1, x -> x.like(6, maker));
        }
        for (int cam : MISSING_CAMS) {
            full.refused("like(" + cam + ", 0)", -5, x -> x.like(cam, 0));
            full.refused("-5 ahead of -3", -5, x -> x.like(cam, 1));
        }
        full.refused("like(0, 1)", -3, x -> x.like(0, 1));
        for (int maker = 0; maker <= 3; maker++) {
            int none = maker;
            bare.refused("like(0, " + none + ")", -3, x -> x.like(0, none));
        }
    }

    private static void whose() {
        for (int cam : NO_CAMS) {
            full.refused("whose(" + cam + ")", -1, x -> x.whose(cam));
            bare.refused("-1, not -9: whose(" + cam + ")", -1, x -> x.whose(cam));
        }
        for (int cam : MISSING_CAMS) {
            full.refused("whose(" + cam + ")", -5, x -> x.whose(cam));
            bare.refused("-5, not -9: whose(" + cam + ")", -5, x -> x.whose(cam));
        }
    }
}
