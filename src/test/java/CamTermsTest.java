import java.util.Arrays;

/** The document's terms, sentence by sentence: LENGTH, CAMS, ONE, BLANKS, TURNED, SMOOTH. */
public final class CamTermsTest {
    private static final Due due = new Due();
    private static final int[] LENGTHS = {2, 3, 4, 5, 6, 7, 8, 9, 10, 11, 12, 13, 14, 15, 16};

    public static void main(String[] args) {
        lengthAtFirst();
        lengths();
        lengthToItself();
        camsAtFirst();
        camsAreApart();
        heights();
        oneIsRound();
        notQuiteOne();
        turnIsRound();
        copyOfAllSpans();
        blanksOfNone();
        blanksOfTwelve();
        missingIsOfNoBlank();
        blanksByLeastCams();
        turnedIsTheLeast();
        smoothBesideOneAnother();
        smoothOfLastAndFirst();
        due.end();
    }

    private static CamFigures ofLength(int length) {
        CamFigures x = new CamFigures();
        due.is("length(" + length + ")", x.length(length), 8);
        return x;
    }

    /** A row that no turn but the whole one leads back to itself. */
    private static int[] oddRow(int length) {
        int[] row = new int[length];
        row[0] = 1;
        row[length - 1] = length > 2 ? 9 : 0;
        return row;
    }

    private static int[] moved(int[] row, int n) {
        int[] to = new int[row.length];
        for (int step = 0; step < row.length; step++) {
            to[(step + n) % row.length] = row[step];
        }
        return to;
    }

    /** "8 at first". */
    private static void lengthAtFirst() {
        CamFigures x = new CamFigures();
        due.is("LENGTH", x.count(0), 8);
        x.blank(0);
        due.is("its last step", x.height(0, 7), 0);
        due.is("the one after", x.height(0, 8), -7);
    }

    /** "A TURN has LENGTH steps (2 .. 16": each of them, and of each the last step, and no further one. */
    private static void lengths() {
        for (int length : LENGTHS) {
            CamFigures x = ofLength(length);
            due.is("LENGTH", x.count(0), length);
            due.is("blank", x.blank(11), 1);
            for (int step = 0; step < length; step++) {
                due.is("cutAt " + step, x.cutAt(11, step, 9), 0);
                due.is("height " + step, x.height(11, step), 9);
            }
            due.is("cutAt LENGTH", x.cutAt(11, length, 9), -7);
            due.is("height LENGTH", x.height(11, length), -7);
            due.is("turn LENGTH less 1", x.turn(11, length - 1), 1);
            due.is("turn LENGTH", x.turn(11, length), -7);
            due.is("copy of LENGTH", x.copy(11, 0, 11, 0, length), length);
            due.is("copy of one more", x.copy(11, 0, 11, 0, length + 1), -7);
        }
    }

    /** "what it was; all CAMS are MISSING, the PAPER has no marks": so, too, if it is what it was. */
    private static void lengthToItself() {
        for (int length : LENGTHS) {
            CamFigures x = ofLength(length);
            for (int cam = 0; cam < 12; cam++) {
                x.blank(cam);
            }
            x.see(0, 0, true);
            x.see(119, 9, true);
            due.is("length as it was", x.length(length), length);
            due.is("CAMS", x.count(1), 0);
            due.is("marks", x.marks(), 0);
            due.is("marked", x.marked(119, 9), 0);
            for (int cam = 0; cam < 12; cam++) {
                due.is("MISSING", x.height(cam, 0), -5);
            }
        }
    }

    /** "CAMS 0 to 11 are MISSING (at first)". */
    private static void camsAtFirst() {
        CamFigures x = new CamFigures();
        for (int cam = 0; cam < 12; cam++) {
            due.is("height of " + cam, x.height(cam, 0), -5);
            due.is("CAMS", x.count(1), cam);
            due.is("blank of " + cam, x.blank(cam), 1);
            due.is("height of " + cam, x.height(cam, 0), 0);
        }
        due.is("CAMS", x.count(1), 12);
        due.is("CAM -1", x.height(-1, 0), -1);
        due.is("CAM 12", x.height(12, 0), -1);
    }

    /** Twelve rows of sixteen heights, each of its own. */
    private static void camsAreApart() {
        CamFigures x = ofLength(16);
        for (int cam = 0; cam < 12; cam++) {
            x.blank(cam);
            for (int step = 0; step < 16; step++) {
                x.cutAt(cam, step, (cam * 7 + step * 3) % 10);
            }
        }
        for (int cam = 0; cam < 12; cam++) {
            for (int step = 0; step < 16; step++) {
                due.is("height", x.height(cam, step), (cam * 7 + step * 3) % 10);
            }
        }
    }

    /** "heights (0 .. 9)", and cutAt answers "what it was". */
    private static void heights() {
        CamFigures x = ofLength(2);
        x.blank(0);
        for (int v = 0; v <= 9; v++) {
            due.is("cutAt", x.cutAt(0, 1, v), v == 0 ? 0 : v - 1);
            due.is("below", x.cutAt(0, 1, -1 - v), -4);
            due.is("above", x.cutAt(0, 1, 10 + v), -6);
            due.heights(x, 0, 0, v);
        }
    }

    /** "ONE if .. the height at each step of the one is that of the other so many steps on (round)". */
    private static void oneIsRound() {
        for (int length : LENGTHS) {
            int[] row = oddRow(length);
            for (int n = 0; n < length; n++) {
                CamFigures x = ofLength(length);
                Due.cut(x, 2, row);
                Due.cut(x, 9, moved(row, n));
                String when = "LENGTH " + length + ", " + n + " on: ";
                due.is(when + "blanks", x.blanks(), 1);
                due.is(when + "BLANK", x.camOf(9, 0), 0);
                due.is(when + "TURNED", x.camOf(9, 1), n);
                due.is(when + "TURNED of the least", x.camOf(2, 1), 0);
            }
        }
    }

    /** The same, with one height that differs: "at each step". */
    private static void notQuiteOne() {
        for (int length : LENGTHS) {
            for (int step = 0; step < length; step++) {
                CamFigures x = ofLength(length);
                int[] row = moved(oddRow(length), 1);
                row[step] = 5;
                Due.cut(x, 2, oddRow(length));
                Due.cut(x, 9, row);
                due.is("blanks", x.blanks(), 2);
                due.is("BLANK", x.camOf(9, 0), 1);
                due.is("TURNED", x.camOf(9, 1), 0);
            }
        }
    }

    /** turn: "n steps (0 .. LENGTH less 1): each height goes so many steps on", round. */
    private static void turnIsRound() {
        for (int length : LENGTHS) {
            for (int n = 0; n < length; n++) {
                CamFigures x = ofLength(length);
                int[] row = new int[length];
                for (int step = 0; step < length; step++) {
                    row[step] = step % 10;
                }
                row[length - 1] = 9;
                Due.cut(x, 0, row);
                Due.cut(x, 1, row);
                due.is("turn", x.turn(0, n), 1);
                due.heights(x, 0, moved(row, n));
                due.heights(x, 1, row);
            }
        }
    }

    /** copy: "n heights .. (as they all were)", "-7 (n below 0, too; not round)": every span of five steps. */
    private static void copyOfAllSpans() {
        for (int i = -1; i <= 6; i++) {
            for (int j = -1; j <= 6; j++) {
                for (int n = -1; n <= 6; n++) {
                    copyOf(i, 1, j, n);
                    copyOf(i, 0, j, n);
                }
            }
        }
    }

    private static void copyOf(int i, int b, int j, int n) {
        CamFigures x = ofLength(5);
        int[][] rows = {{1, 2, 3, 4, 5}, {6, 7, 8, 9, 0}};
        Due.cut(x, 0, rows[0]);
        Due.cut(x, 1, rows[1]);
        boolean within = n >= 0 && i >= 0 && j >= 0 && i + n <= 5 && j + n <= 5;
        due.is("copy(0, " + i + ", " + b + ", " + j + ", " + n + ")", x.copy(0, i, b, j, n), within ? n : -7);
        if (within) {
            int[] from = rows[0].clone();
            System.arraycopy(from, i, rows[b], j, n);
        }
        due.heights(x, 0, rows[0]);
        due.heights(x, 1, rows[1]);
    }

    /** "BLANKS: how many CAMS there must be": none if there is none. */
    private static void blanksOfNone() {
        CamFigures x = new CamFigures();
        due.is("none at first", x.blanks(), 0);
        x.blank(11);
        due.is("one", x.blanks(), 1);
        x.lose(11);
        due.is("none is left", x.blanks(), 0);
        x.blank(11);
        x.length(8);
        due.is("none after length", x.blanks(), 0);
    }

    private static void blanksOfTwelve() {
        CamFigures x = ofLength(2);
        CamFigures y = ofLength(2);
        for (int cam = 0; cam < 12; cam++) {
            Due.cut(x, cam, cam / 4, 3 + cam % 4);
            Due.cut(y, cam, cam % 2, 1 - cam % 2);
            due.is("each of its own", x.blanks(), cam + 1);
            due.is("all are ONE", y.blanks(), 1);
        }
        for (int cam = 0; cam < 12; cam++) {
            due.is("BLANK of its own", x.camOf(cam, 0), cam);
            due.is("TURNED of its own", x.camOf(cam, 1), 0);
            due.is("the one BLANK", y.camOf(cam, 0), 0);
            due.is("TURNED or not", y.camOf(cam, 1), cam % 2);
        }
    }

    /** "each that is there": a CAM that is MISSING is of no BLANK, whatever it was. */
    private static void missingIsOfNoBlank() {
        CamFigures x = ofLength(3);
        Due.cut(x, 0, 1, 2, 3);
        Due.cut(x, 1, 5, 5, 5);
        Due.cut(x, 5, 2, 3, 1);
        Due.cut(x, 8, 3, 1, 2);
        x.lose(0);
        due.is("blanks", x.blanks(), 2);
        due.is("BLANK of 1", x.camOf(1, 0), 0);
        due.is("BLANK of 5", x.camOf(5, 0), 1);
        due.is("TURNED of 5, the least now", x.camOf(5, 1), 0);
        due.is("TURNED of 8, by CAM 5", x.camOf(8, 1), 2);
        due.is("BLANK of 0", x.camOf(0, 0), -5);
        due.is("TURNED of 0", x.camOf(0, 1), -5);
    }

    /** "numbered by their least CAMS": 0, 1, 2 in the order of these, not by what was made first. */
    private static void blanksByLeastCams() {
        CamFigures x = ofLength(2);
        Due.cut(x, 10, 7, 7);
        Due.cut(x, 7, 1, 1);
        Due.cut(x, 11, 4, 4);
        Due.cut(x, 3, 4, 4);
        int[] cams = {3, 7, 10, 11};
        int[] blanks = {0, 1, 2, 0};
        for (int i = 0; i < cams.length; i++) {
            due.is("BLANK of " + cams[i], x.camOf(cams[i], 0), blanks[i]);
        }
    }

    /** "the least number of steps": a row that repeats itself is itself before it is round. */
    private static void turnedIsTheLeast() {
        for (int period = 1; period <= 16; period *= 2) {
            int[] row = new int[16];
            for (int step = 0; step < 16; step += period) {
                row[step] = 7;
            }
            for (int n = 0; n < 16; n++) {
                CamFigures x = ofLength(16);
                Due.cut(x, 0, row);
                Due.cut(x, 1, moved(row, n));
                due.is("TURNED, period " + period + ", " + n + " on", x.camOf(1, 1), n % period);
            }
        }
    }

    /** "heights of two steps beside one another": a step up or down, at each place. */
    private static void smoothBesideOneAnother() {
        for (int length : LENGTHS) {
            for (int step = 0; step < length; step++) {
                CamFigures x = ofLength(length);
                int[] row = new int[length];
                Arrays.fill(row, 4);
                row[step] = 9;
                Due.cut(x, 0, row);
                row[step] = 0;
                Due.cut(x, 1, row);
                due.is("one is higher", x.camOf(0, 2), 5);
                due.is("one is lower", x.camOf(1, 2), 4);
            }
        }
        CamFigures x = ofLength(6);
        Due.cut(x, 0, 0, 3, 6, 9, 6, 3);
        due.is("not of two that are apart", x.camOf(0, 2), 3);
        Due.cut(x, 0, 1, 1, 1, 1, 1, 1);
        due.is("flat", x.camOf(0, 2), 0);
    }

    /** "the last one and the first one, too". */
    private static void smoothOfLastAndFirst() {
        for (int length = 3; length <= 10; length++) {
            int[] up = new int[length];
            int[] down = new int[length];
            for (int step = 0; step < length; step++) {
                up[step] = step;
                down[step] = 9 - step;
            }
            CamFigures x = ofLength(length);
            Due.cut(x, 0, up);
            Due.cut(x, 1, down);
            due.is("up by one", x.camOf(0, 2), length - 1);
            due.is("down by one", x.camOf(1, 2), length - 1);
        }
    }
}
