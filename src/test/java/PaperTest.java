/** Promises 18 to 22 as to the PAPER: WRITING, CELLS, FIRST, and what is told of CELLS. */
public final class PaperTest {
    private static final Due due = new Due();

    public static void main(String[] args) {
        points();
        lines();
        linesOfAllSlopes();
        noLineFromPegToPeg();
        noLineRound();
        widest();
        marked();
        first();
        firstOfTwo();
        see();
        seeKeepsFirst();
        due.end();
    }

    /** One PEG whose LETTER has CAMS 0, 1, 2, and a full SPRING. */
    private static CamFigures figure(int[] across, int[] up, int[] lift) {
        CamFigures x = new CamFigures();
        x.length(across.length);
        Due.cut(x, 0, across);
        Due.cut(x, 1, up);
        Due.cut(x, 2, lift);
        x.letter(0, 0, 1, 2);
        x.peg(0);
        x.wind(1000);
        return x;
    }

    private static int[] row(int... heights) {
        return heights;
    }

    private static void points() {
        CamFigures x = figure(row(0, 3, 6, 9, 9), row(9, 2, 7, 0, 5), row(0, 1, 0, 9, 0));
        due.is("show", x.show(), 5);
        due.paper("the pen is lifted between", x, 0, 9, 6, 7, 9, 5);
    }

    private static void lines() {
        CamFigures x = figure(row(0, 4), row(0, 2), row(0, 0));
        x.show();
        due.paper("half of it goes up", x, 0, 0, 1, 1, 2, 1, 3, 2, 4, 2);
        x = figure(row(4, 0), row(2, 0), row(0, 0));
        x.show();
        due.paper("and back, half goes up, too", x, 4, 2, 3, 2, 2, 1, 1, 1, 0, 0);
        x = figure(row(1, 2), row(0, 5), row(0, 0));
        x.show();
        due.paper("steep", x, 1, 0, 1, 1, 1, 2, 2, 3, 2, 4, 2, 5);
        x = figure(row(2, 1), row(0, 6), row(0, 0));
        x.show();
        due.paper("steep and back: half of -1 goes up", x, 2, 0, 2, 1, 2, 2, 2, 3, 1, 4, 1, 5, 1, 6);
        x = figure(row(7, 7), row(6, 3), row(0, 0));
        x.show();
        due.paper("straight down", x, 7, 6, 7, 5, 7, 4, 7, 3);
        x = figure(row(5, 5), row(5, 5), row(0, 0));
        x.show();
        due.paper("nothing between", x, 5, 5);
        x = figure(row(5, 6), row(5, 4), row(0, 0));
        x.show();
        due.paper("beside one another", x, 5, 5, 6, 4);
    }

    /** Rounds by other means: counts up until half a CELL beyond. */
    private static int nearest(int from, int to, int i, int m) {
        int v = -20;
        while (2 * m * (v + 1) <= 2 * (m * from + i * (to - from)) + m) {
            v++;
        }
        return v;
    }

    private static void linesOfAllSlopes() {
        for (int n = 0; n < 10000; n += 7) {
            int x0 = n % 10;
            int y0 = n / 10 % 10;
            int x1 = n / 100 % 10;
            int y1 = n / 1000;
            CamFigures x = figure(row(x0, x1), row(y0, y1), row(0, 0));
            x.show();
            int m = Math.max(Math.abs(x1 - x0), Math.abs(y1 - y0));
            due.is("marks of line " + n, x.marks(), m + 1);
            for (int i = 0; i <= m && m > 0; i++) {
                due.is("line " + n + " at " + i, x.marked(nearest(x0, x1, i, m), nearest(y0, y1, i, m)), 1);
            }
        }
    }

    private static void noLineFromPegToPeg() {
        CamFigures x = figure(row(0, 1), row(0, 0), row(0, 0));
        x.peg(0);
        x.show();
        due.paper("two PEGS", x, 0, 0, 1, 0, 5, 0, 6, 0);
    }

    private static void noLineRound() {
        CamFigures x = figure(row(0, 4, 4), row(0, 0, 8), row(0, 0, 1));
        x.show();
        due.paper("lifted at the last step", x, 0, 0, 1, 0, 2, 0, 3, 0, 4, 0);
        x = figure(row(0, 4, 8), row(0, 8, 0), row(0, 1, 0));
        x.show();
        due.paper("the last step leads to no line back", x, 0, 0, 8, 0);
    }

    private static void widest() {
        CamFigures x = figure(row(9, 9), row(9, 9), row(0, 0));
        x.advance(9);
        for (int k = 1; k < 12; k++) {
            x.peg(0);
        }
        due.is("show", x.show(), 24);
        due.is("marks", x.marks(), 12);
        for (int k = 0; k < 12; k++) {
            due.is("marked", x.marked(9 * k + 9, 9), 1);
            due.is("PEG", x.first(9 * k + 9, 9, 0), k);
            due.is("step", x.first(9 * k + 9, 9, 1), 0);
        }
    }

    private static void marked() {
        CamFigures x = new CamFigures();
        due.is("marked(0, 0)", x.marked(0, 0), 0);
        x.see(119, 9, true);
        due.is("the last CELL", x.marked(119, 9), 1);
        due.is("x below", x.marked(-1, 0), -1);
        due.is("x above", x.marked(120, 0), -1);
        due.is("y below", x.marked(0, -1), -1);
        due.is("y above", x.marked(0, 10), -1);
        for (int far : Due.FAR) {
            due.is("far x", x.marked(far, 0), -1);
            due.is("far y", x.marked(0, far), -1);
        }
        due.refusals(x, 16, 0, 0, 0, 0, 0, 0);
    }

    private static void first() {
        CamFigures x = figure(row(0, 4, 4, 0), row(0, 0, 4, 4), row(0, 0, 0, 0));
        x.peg(0);
        x.show();
        due.is("PEG of a step's CELL", x.first(4, 0, 0), 0);
        due.is("step of a step's CELL", x.first(4, 0, 1), 1);
        due.is("a LINE is by the step at its end", x.first(2, 0, 1), 1);
        due.is("first step", x.first(0, 0, 1), 0);
        due.is("last step", x.first(0, 4, 1), 3);
        due.is("PEG 1", x.first(9, 2, 0), 1);
        due.is("PEG 1's step", x.first(9, 2, 1), 2);
        due.is("not marked", x.first(0, 2, 0), -9);
        due.is("not marked", x.first(0, 2, 1), -9);
        due.is("-1 ahead of -2", x.first(120, 0, 2), -1);
        due.is("-1 y", x.first(0, 10, 0), -1);
        due.is("-1 below", x.first(-1, 0, 0), -1);
        due.is("-1 y below", x.first(0, -1, 0), -1);
        due.is("-2 of a marked one", x.first(0, 0, 2), -2);
        due.is("-2 ahead of -9", x.first(0, 2, -1), -2);
        for (int far : Due.FAR) {
            due.is("far x", x.first(far, 0, 0), -1);
            due.is("far y", x.first(0, far, 0), -1);
            due.is("far what", x.first(0, 0, far), -2);
        }
        due.refusals(x, 16, 8, 0, 0, 0, 0, 0);
    }

    private static void firstOfTwo() {
        CamFigures x = figure(row(5, 0, 5), row(0, 0, 0), row(0, 1, 0));
        x.peg(0);
        x.show();
        due.is("the first step of two", x.first(5, 0, 1), 0);
        due.is("PEG 1 is at 10", x.first(10, 0, 0), 1);
        x.advance(0);
        x.show();
        due.is("the first PEG of two", x.first(5, 0, 0), 0);
        x.fault(2, 0);
        x.show();
        due.is("of the latest SHOW alone", x.first(5, 0, 0), 1);
    }

    private static void see() {
        CamFigures x = new CamFigures();
        due.is("see on", x.see(7, 3, true), 1);
        due.paper("told", x, 7, 3);
        due.is("FIRST's PEG", x.first(7, 3, 0), 99);
        due.is("FIRST's step", x.first(7, 3, 1), 99);
        due.is("it was so", x.see(7, 3, true), 0);
        due.is("see off", x.see(7, 3, false), 1);
        due.is("it was so", x.see(7, 3, false), 0);
        due.paper("told off", x);
        due.is("FIRST", x.first(7, 3, 0), -9);
        due.is("-1", x.see(120, 0, true), -1);
        due.is("-1 y", x.see(0, 10, false), -1);
        due.is("-1 below", x.see(-1, 0, true), -1);
        due.is("-1 y below", x.see(0, -1, true), -1);
        for (int far : Due.FAR) {
            due.is("far x", x.see(far, 0, true), -1);
            due.is("far y", x.see(0, far, false), -1);
        }
        due.refusals(x, 16, 0, 0, 0, 0, 0, 0);
        for (int cy = 0; cy < 10; cy++) {
            everyCell(cy);
        }
    }

    /** An object is good for 512 calls: so a row at a time. */
    private static void everyCell(int cy) {
        CamFigures x = new CamFigures();
        for (int cx = 0; cx < 120; cx++) {
            due.is("see", x.see(cx, cy, true), 1);
            due.is("marks", x.marks(), cx + 1);
        }
        due.is("length", x.length(4), 8);
        due.paper("after length", x);
        for (int cx = 0; cx < 120; cx++) {
            due.is("marked after length", x.marked(cx, cy), 0);
        }
    }

    private static void seeKeepsFirst() {
        CamFigures x = figure(row(0, 4), row(0, 0), row(0, 0));
        x.show();
        due.is("it was so", x.see(3, 0, true), 0);
        due.is("so FIRST stays", x.first(3, 0, 1), 1);
        due.is("told off", x.see(3, 0, false), 1);
        due.is("told on", x.see(3, 0, true), 1);
        due.is("FIRST is told", x.first(3, 0, 1), 99);
        due.is("others stay", x.first(2, 0, 1), 1);
        x.show();
        due.is("written anew", x.first(3, 0, 1), 1);
        due.is("and PEG", x.first(3, 0, 0), 0);
    }
}
