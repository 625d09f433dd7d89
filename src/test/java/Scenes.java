/** Figures in which every part holds something that a call could spoil. */
final class Scenes {
    private Scenes() {
    }

    /**
     * LENGTH 3; CAMS 0 to 5 and 11; LETTERS 0, 1, 9 are CUT, 2 is not; PEGS 0, 1, 9; every FAULT; MAKERS
     * 0, 2 and 3 with HABITS; WEAR, STRAIN, ticks, a SHOW that was DONE and one that was not; a PAPER that
     * was written and told; each refusal once.
     */
    static void full(CamFigures x) {
        wearOut(x);
        x.length(3);
        Due.cut(x, 0, 1, 0, 4);
        Due.cut(x, 1, 0, 2, 3);
        Due.cut(x, 2, 0, 0, 0);
        Due.cut(x, 3, 4, 1, 0);
        Due.cut(x, 4, 9, 8, 7);
        Due.cut(x, 5, 0, 1, 0);
        Due.cut(x, 11, 6, 6, 6);
        x.letter(0, 0, 1, 2);
        x.letter(1, 1, 3, 5);
        x.letter(9, 3, 4, 2);
        x.letter(2, 0, 1, 7);
        x.peg(0);
        x.peg(1);
        x.peg(9);
        x.advance(4);
        x.pull(3);
        tellFaults(x);
        x.wind(600);
        x.show();
        x.see(119, 9, true);
        x.see(0, 9, true);
        x.made(0, 0);
        x.made(1, 2);
        x.made(4, 2);
        x.made(11, 3);
        refuseEach(x);
    }

    /** 144 steps, and then too little for the next SHOW. */
    private static void wearOut(CamFigures x) {
        x.length(12);
        x.blank(0);
        for (int peg = 0; peg < 12; peg++) {
            x.peg(0);
        }
        x.pull(6);
        x.wind(1001);
        x.show();
        x.show();
        for (int peg = 0; peg < 12; peg++) {
            x.unpeg();
        }
    }

    private static void tellFaults(CamFigures x) {
        x.fault(1, 3);
        x.fault(2, 1);
        x.fault(3, 1);
    }

    private static void refuseEach(CamFigures x) {
        x.blank(12);
        x.camOf(0, 3);
        x.like(0, 1);
        x.wind(-1);
        x.lose(6);
        x.pull(21);
        x.height(0, 3);
    }

    static void fullOfPegs(CamFigures x) {
        full(x);
        for (int peg = 3; peg < 12; peg++) {
            x.peg(peg % 2);
        }
    }

    static void withoutPegs(CamFigures x) {
        full(x);
        x.unpeg();
        x.unpeg();
        x.unpeg();
    }

    /** PEG 3 is of LETTER 2, whose LIFT is MISSING. */
    static void notCut(CamFigures x) {
        full(x);
        x.peg(2);
    }

    /** MAKER 3 cut 998 heights: a CAM of three is one too many by one. */
    static void fullMaker(CamFigures x) {
        x.length(16);
        x.blank(0);
        for (int n = 0; n < 62; n++) {
            x.made(0, 3);
        }
        full(x);
        x.made(0, 3);
    }

    /** Nothing but CAMS 0 and 1: no MAKER cut anything, no FAULTS, nothing is written. */
    static void bare(CamFigures x) {
        x.length(2);
        x.blank(0);
        x.blank(1);
    }
}
