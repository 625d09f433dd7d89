/** The document's terms, sentence by sentence: LETTERS, MESSAGE, ADVANCE, WRITING, CELLS, the PAPER, FIRST. */
public final class WritingTermsTest {
    private static final Due due = new Due();

    public static void main(String[] args) {
        lettersAtFirst();
        cutIfNoneIsMissing();
        pegsAtFirst();
        twelvePegs();
        eachAdvance();
        eachHeightAcrossAndUp();
        penIsDownAtNothing();
        lineIfDownAtBoth();
        noLineFromThePegAhead();
        noLineRound();
        everyLine();
        linesAtEachPeg();
        cellsOfThePaper();
        eachCellIsItsOwn();
        paperAtFirst();
        paperIsOfTheLatestShow();
        firstOfAll();
        firstOfLines();
        firstIsKept();
        due.end();
    }

    /** PEGS of LETTER 0 by CAMS 0, 1, 2; ADVANCE 9; a full SPRING. */
    private static CamFigures figure(int pegs, int[] across, int[] up, int[] lift) {
        CamFigures x = new CamFigures();
        x.length(across.length);
        Due.cut(x, 0, across);
        Due.cut(x, 1, up);
        Due.cut(x, 2, lift);
        x.letter(0, 0, 1, 2);
        for (int k = 0; k < pegs; k++) {
            x.peg(0);
        }
        x.advance(9);
        x.pull(1);
        x.wind(1000);
        return x;
    }

    private static int[] row(int... heights) {
        return heights;
    }

    /** "three CAMS: ACROSS, UP, LIFT (each 0 at first)". */
    private static void lettersAtFirst() {
        for (int l = 0; l <= 9; l++) {
            CamFigures x = new CamFigures();
            for (int cam = 1; cam < 12; cam++) {
                x.blank(cam);
            }
            due.is("without CAM 0", x.isCut(l), 0);
            x.blank(0);
            for (int cam = 1; cam < 12; cam++) {
                x.lose(cam);
            }
            due.is("with CAM 0 alone", x.isCut(l), 1);
        }
        due.is("LETTER -1", new CamFigures().isCut(-1), -1);
        due.is("LETTER 10", new CamFigures().isCut(10), -1);
    }

    /** "A LETTER is CUT if none of its three is MISSING". */
    private static void cutIfNoneIsMissing() {
        for (int there = 0; there < 8; there++) {
            CamFigures x = new CamFigures();
            due.is("letter", x.letter(9, 11, 5, 8), 1);
            int[] cams = {11, 5, 8};
            for (int i = 0; i < 3; i++) {
                if ((there >> i & 1) == 1) {
                    x.blank(cams[i]);
                }
            }
            due.is("isCut with " + there, x.isCut(9), there == 7 ? 1 : 0);
        }
    }

    /** "A MESSAGE: 0 .. 12 PEGS": none at first. */
    private static void pegsAtFirst() {
        CamFigures x = new CamFigures();
        due.is("PEGS", x.count(2), 0);
        due.is("unpeg", x.unpeg(), -3);
        due.is("a MESSAGE of none is written", x.show(), 0);
    }

    /** "0 .. 12 PEGS, each a LETTER": twelve are written, a thirteenth is refused; then one out, one in. */
    private static void twelvePegs() {
        CamFigures x = figure(0, row(0, 0), row(0, 0), row(0, 0));
        Due.cut(x, 3, 9, 9);
        x.letter(1, 0, 3, 2);
        for (int k = 0; k < 12; k++) {
            due.is("peg", x.peg(k % 3 == 0 ? 1 : 0), k + 1);
        }
        due.is("the thirteenth", x.peg(0), -6);
        due.is("PEGS", x.count(2), 12);
        due.is("show", x.show(), 24);
        due.is("marks", x.marks(), 12);
        for (int k = 0; k < 12; k++) {
            due.is("PEG " + k, x.first(9 * k, k % 3 == 0 ? 9 : 0, 0), k);
        }
        due.is("one out", x.unpeg(), 11);
        due.is("another in", x.peg(1), 12);
        due.is("no more", x.peg(1), -6);
        x.show();
        due.is("the last is another", x.first(99, 9, 0), 11);
        for (int k = 11; k >= 0; k--) {
            due.is("unpeg", x.unpeg(), k);
        }
        due.is("none is left", x.unpeg(), -3);
    }

    /** "ADVANCE: 0 .. 9 (5 at first)", "X is k times ADVANCE and the height of ACROSS". */
    private static void eachAdvance() {
        due.is("ADVANCE at first", new CamFigures().advance(3), 5);
        for (int n = 0; n <= 9; n++) {
            CamFigures x = figure(12, row(7, 7), row(2, 2), row(0, 0));
            due.is("advance", x.advance(n), 9);
            x.show();
            due.is("marks", x.marks(), n == 0 ? 1 : 12);
            for (int k = 0; k < 12; k++) {
                due.is("ADVANCE " + n + ", PEG " + k, x.first(k * n + 7, 2, 0), n == 0 ? 0 : k);
            }
            due.is("as it was told", x.advance(0), n);
        }
    }

    private static void eachHeightAcrossAndUp() {
        for (int across = 0; across <= 9; across++) {
            for (int up = 0; up <= 9; up++) {
                CamFigures x = figure(2, row(across, across), row(up, up), row(0, 0));
                x.show();
                due.paper("heights " + across + ", " + up, x, across, up, 9 + across, up);
            }
        }
    }

    /** "the pen is down if LIFT's height at t is 0". */
    private static void penIsDownAtNothing() {
        for (int lift = 0; lift <= 9; lift++) {
            CamFigures x = figure(1, row(3, 3), row(6, 6), row(lift, lift));
            due.is("show", x.show(), 2);
            due.is("LIFT " + lift, x.marks(), lift == 0 ? 1 : 0);
        }
    }

    /** "if it was down at the step ahead, too .. it also marks all CELLS of the LINE". */
    private static void lineIfDownAtBoth() {
        int[][] lifts = {{0, 0}, {0, 1}, {1, 0}, {1, 1}};
        int[] marks = {4, 1, 1, 0};
        for (int i = 0; i < lifts.length; i++) {
            CamFigures x = figure(1, row(1, 4), row(2, 2), lifts[i]);
            x.show();
            due.is("marks", x.marks(), marks[i]);
            due.is("its first CELL", x.marked(1, 2), lifts[i][0] == 0 ? 1 : 0);
            due.is("between", x.marked(2, 2), i == 0 ? 1 : 0);
            due.is("its last CELL", x.marked(4, 2), lifts[i][1] == 0 ? 1 : 0);
        }
        CamFigures x = figure(1, row(0, 4, 8), row(0, 0, 0), row(0, 1, 0));
        x.show();
        due.paper("down two steps ahead alone", x, 0, 0, 8, 0);
    }

    /** "(of the same PEG)". */
    private static void noLineFromThePegAhead() {
        CamFigures x = figure(3, row(0, 0), row(0, 0), row(0, 0));
        x.show();
        due.paper("three PEGS that are down", x, 0, 0, 9, 0, 18, 0);
    }

    private static void noLineRound() {
        CamFigures x = figure(1, row(0, 9, 9), row(0, 0, 9), row(0, 1, 0));
        x.show();
        due.paper("from the last step to the first", x, 0, 0, 9, 9);
    }

    /** The nearest whole number by m, half of it up: counted up, not divided. */
    private static int nearest(int amount, int m) {
        int v = -20;
        while (2 * m * (v + 1) <= 2 * amount + m) {
            v++;
        }
        return v;
    }

    /** "for each i above 0, below m: X then, and i times the difference of X by m .. half of it up". */
    private static void everyLine() {
        for (int n = 0; n < 10000; n++) {
            int[] xs = {n % 10, n / 10 % 10};
            int[] ys = {n / 100 % 10, n / 1000};
            int dx = xs[1] - xs[0];
            int dy = ys[1] - ys[0];
            int m = Math.max(Math.abs(dx), Math.abs(dy));
            CamFigures x = figure(1, xs, ys, row(0, 0));
            x.show();
            due.is("marks of line " + n, x.marks(), m + 1);
            due.is("its first end is by step 0", x.first(xs[0], ys[0], 1), 0);
            for (int i = 1; i <= m; i++) {
                int cx = xs[0] + nearest(i * dx, m);
                int cy = ys[0] + nearest(i * dy, m);
                due.is("line " + n + " at " + i, x.first(cx, cy, 1), 1);
            }
        }
    }

    /** Lines at each place are alike: X of a PEG does not change how they are rounded. */
    private static void linesAtEachPeg() {
        CamFigures x = figure(12, row(4, 0), row(0, 2), row(0, 0));
        x.show();
        due.is("marks", x.marks(), 60);
        int[] cells = {4, 0, 3, 1, 2, 1, 1, 2, 0, 2};
        for (int k = 0; k < 12; k++) {
            for (int i = 0; i < cells.length; i += 2) {
                due.is("PEG " + k, x.first(9 * k + cells[i], cells[i + 1], 0), k);
            }
        }
    }

    /** "CELLS: X 0 .. 119, Y 0 .. 9". */
    private static void cellsOfThePaper() {
        CamFigures x = new CamFigures();
        for (int cx : new int[] {0, 119}) {
            for (int cy : new int[] {0, 9}) {
                due.is("marked", x.marked(cx, cy), 0);
                due.is("first", x.first(cx, cy, 0), -9);
                due.is("see", x.see(cx, cy, true), 1);
                due.is("marked", x.marked(cx, cy), 1);
            }
        }
        due.is("marks", x.marks(), 4);
        int[] beyond = {-1, 0, 120, 0, 0, -1, 0, 10, 119, -1, 119, 10, -1, 9, 120, 9};
        for (int i = 0; i < beyond.length; i += 2) {
            int cx = beyond[i];
            int cy = beyond[i + 1];
            due.is("marked(" + cx + ", " + cy + ")", x.marked(cx, cy), -1);
            due.is("first(" + cx + ", " + cy + ", 0)", x.first(cx, cy, 0), -1);
            due.is("see(" + cx + ", " + cy + ", true)", x.see(cx, cy, true), -1);
        }
        due.is("marks", x.marks(), 4);
    }

    /** Each of the 1200 CELLS; ten columns for each object, to stay within its 512 calls. */
    private static void eachCellIsItsOwn() {
        for (int from = 0; from < 120; from += 10) {
            CamFigures x = new CamFigures();
            for (int cell = 0; cell < 100; cell++) {
                int cx = from + cell / 10;
                due.is("not yet", x.marked(cx, cell % 10), 0);
                due.is("see", x.see(cx, cell % 10, true), 1);
                due.is("marks", x.marks(), cell + 1);
                due.is("step", x.first(cx, cell % 10, 1), 99);
            }
            due.is("see off", x.see(from + 4, 4, false), 1);
            due.is("marks", x.marks(), 99);
            due.is("that one", x.marked(from + 4, 4), 0);
            due.is("the one beside", x.marked(from + 5, 4), 1);
            due.is("the one above", x.marked(from + 4, 5), 1);
        }
    }

    /** "(none at first)". */
    private static void paperAtFirst() {
        due.is("marks", new CamFigures().marks(), 0);
        for (int from = 0; from < 120; from += 40) {
            CamFigures x = new CamFigures();
            for (int cell = 0; cell < 400; cell++) {
                due.is("first", x.first(from + cell / 10, cell % 10, cell % 2), -9);
            }
        }
    }

    /** "CELLS that are marked by the latest SHOW". */
    private static void paperIsOfTheLatestShow() {
        CamFigures x = figure(2, row(3, 3), row(0, 5), row(0, 0));
        x.show();
        due.is("marks", x.marks(), 12);
        x.see(119, 9, true);
        x.unpeg();
        x.cutAt(1, 1, 0);
        x.show();
        due.paper("another MESSAGE", x, 3, 0);
        due.is("what was marked ahead", x.first(3, 5, 0), -9);
        x.cutAt(2, 0, 1);
        x.cutAt(2, 1, 1);
        x.show();
        due.paper("nothing", x);
        due.is("nothing is FIRST", x.first(3, 0, 0), -9);
    }

    /** "the PEG and the step": each step of each PEG, to PEG 11 and step 15. */
    private static void firstOfAll() {
        int[] across = new int[16];
        int[] up = new int[16];
        int[] lift = new int[16];
        for (int step = 0; step < 16; step++) {
            across[step] = step < 8 ? step : 15 - step;
            up[step] = step / 8;
        }
        for (int peg = 0; peg < 12; peg++) {
            CamFigures x = figure(12, across, up, lift);
            due.is("show", x.show(), 192);
            for (int step = 0; step < 16; step++) {
                int cx = 9 * peg + across[step];
                due.is("PEG of step " + step, x.first(cx, step / 8, 0), peg);
                due.is("step " + step, x.first(cx, step / 8, 1), step);
            }
        }
    }

    /** "CELLS of a LINE: by the step at its end". */
    private static void firstOfLines() {
        CamFigures x = figure(1, row(0, 5, 5), row(0, 0, 5), row(0, 0, 0));
        x.show();
        for (int i = 1; i <= 5; i++) {
            due.is("to step 1", x.first(i, 0, 1), 1);
            due.is("to step 2", x.first(5, i, 1), 2);
        }
        due.is("where it began", x.first(0, 0, 1), 0);
    }

    /** "by which it was marked first": a later step, a later LINE, a later PEG do not matter. */
    private static void firstIsKept() {
        CamFigures x = figure(1, row(4, 0, 8), row(0, 0, 0), row(0, 1, 0));
        x.cutAt(2, 1, 0);
        x.show();
        due.is("by step 0", x.first(4, 0, 1), 0);
        due.is("by the first LINE", x.first(2, 0, 1), 1);
        due.is("by the second LINE", x.first(6, 0, 1), 2);
        x.peg(0);
        x.advance(0);
        x.show();
        for (int cx = 0; cx <= 8; cx++) {
            due.is("PEG", x.first(cx, 0, 0), 0);
        }
        x.advance(4);
        x.show();
        due.is("PEG 0 at 8", x.first(8, 0, 0), 0);
        due.is("PEG 1 at 9", x.first(9, 0, 0), 1);
        due.is("step 2 of it", x.first(9, 0, 1), 2);
    }
}
