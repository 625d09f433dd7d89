import java.util.ArrayList;
import java.util.List;

/**
 * Ways to find out all that a figure holds, part by part. A probe changes the figure that it asks, and an
 * object is good for 512 calls, so each probe gets a figure of its own.
 */
final class Probes {
    /** What a figure holds; LETTERS are asked one by one, the PAPER strip by strip. */
    enum Part { CAMS, LETTERS, PEGS, ADVANCE, PULL, SPRING, SHOWS, PAPER, FAULTS, HABITS }

    private static final int CAMS = 12;
    private static final int LETTERS = 10;
    private static final int MOST_PEGS = 12;
    private static final int STRIPS = 8;
    private static final int STRIP = 15;

    private Probes() {
    }

    /** How many figures it takes to ask for a part. */
    static int figuresFor(Part part) {
        return part == Part.LETTERS ? LETTERS : part == Part.PAPER ? STRIPS : 1;
    }

    static List<Integer> ask(Part part, int which, CamFigures x) {
        switch (part) {
            case CAMS:
                return cams(x);
            case LETTERS:
                return camsOfLetter(x, which);
            case PEGS:
                return lettersOfPegs(x);
            case ADVANCE:
                return List.of(x.advance(0));
            case PULL:
                return List.of(x.pull(1));
            case SPRING:
                return List.of(x.count(3), x.count(4), x.count(5), x.count(6), x.count(7), x.wind(0));
            case SHOWS:
                return List.of(x.count(8), x.count(9));
            case PAPER:
                return strip(x, which);
            case FAULTS:
                return faults(x);
            default:
                return habits(x);
        }
    }

    private static List<Integer> cams(CamFigures x) {
        List<Integer> found = new ArrayList<>(List.of(x.count(0), x.count(1), x.blanks()));
        for (int cam = 0; cam < CAMS; cam++) {
            for (int step = 0; step < x.count(0); step++) {
                found.add(x.height(cam, step));
            }
        }
        return found;
    }

    private static List<Integer> strip(CamFigures x, int which) {
        List<Integer> found = new ArrayList<>(List.of(x.marks()));
        for (int cell = 0; cell < STRIP * 10; cell++) {
            int cx = which * STRIP + cell / 10;
            found.add(x.first(cx, cell % 10, 0));
            found.add(x.first(cx, cell % 10, 1));
        }
        return found;
    }

    /** A figure of two steps, all CAMS of height 0, no FAULTS, a full SPRING that needs little. */
    private static void flatten(CamFigures x) {
        x.length(2);
        for (int cam = 0; cam < CAMS; cam++) {
            x.blank(cam);
        }
        x.mend();
        x.pull(1);
        x.wind(5000);
    }

    private static void raise(CamFigures x, int cam, int v) {
        x.cutAt(cam, 0, v);
        x.cutAt(cam, 1, v);
    }

    /** The one CAM that is raised moves the CELL across, or up, or lifts the pen. */
    private static List<Integer> camsOfLetter(CamFigures x, int l) {
        flatten(x);
        while (x.count(2) > 0) {
            x.unpeg();
        }
        x.peg(l);
        List<Integer> found = new ArrayList<>();
        for (int cam = 0; cam < CAMS; cam++) {
            raise(x, cam, 1);
            x.show();
            found.add(x.marks());
            found.add(x.marked(0, 0));
            found.add(x.marked(1, 0));
            found.add(x.marked(0, 1));
            raise(x, cam, 0);
        }
        return found;
    }

    /** LETTER l writes at height l. */
    private static List<Integer> lettersOfPegs(CamFigures x) {
        List<Integer> found = new ArrayList<>(List.of(x.count(2)));
        flatten(x);
        x.advance(9);
        for (int l = 0; l < LETTERS; l++) {
            raise(x, l, l);
            x.letter(l, 11, l, 11);
        }
        x.show();
        for (int peg = 0; peg < MOST_PEGS; peg++) {
            for (int y = 0; y < LETTERS; y++) {
                found.add(x.marked(9 * peg, y));
            }
        }
        return found;
    }

    /**
     * Twelve PEGS of one LETTER, each a CELL at 5, 5 of its place, or beside it: which PEG is LOOSE and
     * which LEVER is BENT is seen at once, the CAM that is WORN when it is that of the LETTER.
     */
    private static List<Integer> faults(CamFigures x) {
        List<Integer> found = new ArrayList<>(List.of(x.count(10)));
        x.length(2);
        x.advance(9);
        x.pull(1);
        while (x.count(2) > 0) {
            x.unpeg();
        }
        for (int peg = 0; peg < MOST_PEGS; peg++) {
            x.blank(peg);
            x.peg(0);
        }
        for (int cam = 0; cam < CAMS; cam++) {
            raise(x, cam, 5);
            x.letter(0, cam, cam, (cam + 1) % CAMS);
            x.wind(5000);
            x.show();
            for (int peg = 0; peg < (cam == 0 ? MOST_PEGS : 2); peg++) {
                cellsOfPeg(x, peg, found);
            }
            raise(x, cam, 0);
        }
        return found;
    }

    private static void cellsOfPeg(CamFigures x, int peg, List<Integer> found) {
        for (int v = 4; v <= 5; v++) {
            found.add(x.marked(9 * peg + v, v));
            found.add(x.marked(9 * peg + v + 1, v));
            found.add(x.marked(9 * peg + v, v + 1));
        }
    }

    /** A CAM of one height alone is the less alike the less a MAKER cut that height. */
    private static List<Integer> habits(CamFigures x) {
        List<Integer> found = new ArrayList<>();
        x.length(2);
        x.blank(0);
        for (int h = 0; h <= 9; h++) {
            raise(x, 0, h);
            found.add(x.whose(0));
            for (int maker = 0; maker < 4; maker++) {
                found.add(x.like(0, maker));
            }
        }
        return found;
    }
}
