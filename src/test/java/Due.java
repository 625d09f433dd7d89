/** Compares answers with those that are due, and ends a test with exit code 1 if one was not. */
final class Due {
    static final int[] FAR = {Integer.MIN_VALUE, Integer.MIN_VALUE + 1, -1000000, -100, Integer.MAX_VALUE - 1, Integer.MAX_VALUE};

    private int wrong = 0;

    void is(String call, int got, int want) {
        if (got != want) {
            wrong++;
            System.out.println(call + " answered " + got + ", due is " + want);
        }
    }

    void heights(CamFigures x, int cam, int... want) {
        for (int step = 0; step < want.length; step++) {
            is("height(" + cam + ", " + step + ")", x.height(cam, step), want[step]);
        }
    }

    /** Exactly these CELLS are marked: pairs of X and Y. */
    void paper(String when, CamFigures x, int... cells) {
        is(when + ": marks()", x.marks(), cells.length / 2);
        for (int i = 0; i + 1 < cells.length; i += 2) {
            is(when + ": marked(" + cells[i] + ", " + cells[i + 1] + ")", x.marked(cells[i], cells[i + 1]), 1);
        }
    }

    /** How many of each refusal were told, -1 first. */
    void refusals(CamFigures x, int... want) {
        for (int i = 0; i < want.length; i++) {
            is("count(" + (11 + i) + ")", x.count(11 + i), want[i]);
        }
    }

    static void cut(CamFigures x, int cam, int... heights) {
        x.blank(cam);
        for (int step = 0; step < heights.length; step++) {
            x.cutAt(cam, step, heights[step]);
        }
    }

    void end() {
        if (wrong != 0) {
            System.out.println(wrong + " answers are not as due");
            System.exit(1);
        }
    }
}
