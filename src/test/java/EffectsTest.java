import java.util.EnumSet;

/**
 * What each call changes and, above all, what it does not: questions change nothing, -9 is no refusal, a
 * call that tells what was so already changes nothing, and every other one changes its own part alone.
 */
public final class EffectsTest {
    private static final Due due = new Due();
    private static final Twins full = new Twins(due, Scenes::full);
    private static final Twins withoutPegs = new Twins(due, Scenes::withoutPegs);
    private static final Twins bare = new Twins(due, Scenes::bare);

    public static void main(String[] args) {
        questions();
        nines();
        toldAsItWas();
        nothingToDo();
        camsAlone();
        messageAlone();
        springAlone();
        paperAlone();
        faultsAlone();
        makersAlone();
        oneCamAlone();
        oneLetterAlone();
        thereAndBack();
        due.end();
    }

    private static void changes(String name, Twins.Scene more, Probes.Part part, Probes.Part... others) {
        full.changesOnly(name, more, EnumSet.of(part, others));
    }

    private static void questions() {
        full.quiet("height", 4, x -> x.height(0, 2));
        full.quiet("blanks", 6, x -> x.blanks());
        full.quiet("camOf 0", 4, x -> x.camOf(5, 0));
        full.quiet("camOf 1", 0, x -> x.camOf(5, 1));
        full.quiet("camOf 2", 4, x -> x.camOf(0, 2));
        full.quiet("isCut", 1, x -> x.isCut(9));
        full.quiet("isCut", 0, x -> x.isCut(2));
        full.quiet("marked", 1, x -> x.marked(119, 9));
        full.quiet("marked", 0, x -> x.marked(119, 8));
        full.quiet("first", 99, x -> x.first(119, 9, 0));
        full.quiet("marks", 14, x -> x.marks());
        full.quiet("like", 0, x -> x.like(0, 0));
        full.quiet("whose", 3, x -> x.whose(11));
        for (int what = 0; what <= 17; what++) {
            int asked = what;
            CamFigures y = new CamFigures();
            Scenes.full(y);
            full.quiet("count(" + what + ")", y.count(what), x -> x.count(asked));
        }
    }

    /** "-9" is an answer, not a refusal. */
    private static void nines() {
        for (int what : new int[] {-1, 18, 100, Integer.MIN_VALUE, Integer.MIN_VALUE + 10, Integer.MAX_VALUE}) {
            full.quiet("count(" + what + ")", -9, x -> x.count(what));
        }
        full.quiet("first of a CELL without mark: PEG", -9, x -> x.first(118, 9, 0));
        full.quiet("first of a CELL without mark: step", -9, x -> x.first(118, 9, 1));
        full.quiet("explained by none: KIND", -9, x -> x.explained(0));
        full.quiet("explained by none: which", -9, x -> x.explained(1));
        bare.quiet("explained without FAULT: KIND", 0, x -> x.explained(0));
        bare.quiet("explained without FAULT: which", -9, x -> x.explained(1));
        bare.quiet("no MAKER cut anything", -9, x -> x.whose(0));
    }

    private static void toldAsItWas() {
        full.quiet("cutAt", 4, x -> x.cutAt(0, 2, 4));
        full.quiet("letter", 1, x -> x.letter(2, 0, 1, 7));
        full.quiet("advance", 4, x -> x.advance(4));
        full.quiet("pull", 3, x -> x.pull(3));
        full.quiet("fault 1", 1, x -> x.fault(1, 3));
        full.quiet("fault 2", 1, x -> x.fault(2, 1));
        full.quiet("fault 3", 1, x -> x.fault(3, 1));
        full.quiet("see a CELL that is told", 0, x -> x.see(119, 9, true));
        full.quiet("see a CELL that is written", 0, x -> x.see(0, 3, true));
        full.quiet("see a CELL without mark", 0, x -> x.see(119, 8, false));
        full.quiet("blank of a flat CAM", 0, x -> x.blank(2));
        bare.quiet("mend without FAULTS", 0, x -> x.mend());
    }

    private static void nothingToDo() {
        full.quiet("turn by 0", 1, x -> x.turn(0, 0));
        full.quiet("turn of a flat CAM", 1, x -> x.turn(11, 2));
        full.quiet("copy onto itself", 3, x -> x.copy(0, 0, 0, 0, 3));
        for (int i = 0; i <= 3; i++) {
            for (int j = 0; j <= 3; j++) {
                int from = i;
                int to = j;
                full.quiet("copy of none", 0, x -> x.copy(0, from, 1, to, 0));
            }
        }
        full.quiet("wind(0)", 577, x -> x.wind(0));
    }

    private static void camsAlone() {
        Probes.Part cams = Probes.Part.CAMS;
        changes("blank of a CAM", x -> due.is("blank", x.blank(0), 0), cams);
        changes("blank of a MISSING CAM", x -> due.is("blank", x.blank(6), 1), cams);
        changes("lose", x -> due.is("lose", x.lose(0), 1), cams);
        changes("cutAt", x -> due.is("cutAt", x.cutAt(0, 2, 9), 4), cams);
        changes("copy", x -> due.is("copy", x.copy(0, 1, 4, 0, 2), 2), cams);
        changes("turn", x -> due.is("turn", x.turn(0, 2), 1), cams);
        changes("length", x -> due.is("length", x.length(3), 3), cams, Probes.Part.PAPER);
        changes("length", x -> due.is("length", x.length(16), 3), cams, Probes.Part.PAPER);
    }

    private static void messageAlone() {
        changes("letter", x -> due.is("letter", x.letter(9, 3, 4, 10), 1), Probes.Part.LETTERS);
        changes("peg", x -> due.is("peg", x.peg(9), 4), Probes.Part.PEGS);
        changes("unpeg", x -> due.is("unpeg", x.unpeg(), 2), Probes.Part.PEGS);
        changes("advance", x -> due.is("advance", x.advance(0), 4), Probes.Part.ADVANCE);
        changes("pull", x -> due.is("pull", x.pull(20), 3), Probes.Part.PULL);
    }

    private static void springAlone() {
        changes("wind", x -> due.is("wind", x.wind(1), 578), Probes.Part.SPRING);
        changes("wind too much", x -> due.is("wind", x.wind(5000), 1000), Probes.Part.SPRING);
        changes("show", x -> due.is("show", x.show(), 6), Probes.Part.SPRING, Probes.Part.SHOWS, Probes.Part.PAPER);
        withoutPegs.changesOnly("show of nothing", x -> due.is("show", x.show(), 0),
            EnumSet.of(Probes.Part.SHOWS, Probes.Part.PAPER));
        bare.changesOnly("show of nothing on new paper", x -> due.is("show", x.show(), 0),
            EnumSet.of(Probes.Part.SHOWS));
    }

    private static void paperAlone() {
        changes("see on", x -> due.is("see", x.see(119, 0, true), 1), Probes.Part.PAPER);
        changes("see off", x -> due.is("see", x.see(119, 9, false), 1), Probes.Part.PAPER);
    }

    private static void faultsAlone() {
        changes("fault 1", x -> due.is("fault", x.fault(1, 11), 1), Probes.Part.FAULTS);
        changes("fault 2", x -> due.is("fault", x.fault(2, 2), 1), Probes.Part.FAULTS);
        changes("fault 3", x -> due.is("fault", x.fault(3, 0), 1), Probes.Part.FAULTS);
        changes("mend", x -> due.is("mend", x.mend(), 3), Probes.Part.FAULTS);
        bare.changesOnly("fault 1", x -> x.fault(1, 0), EnumSet.of(Probes.Part.FAULTS));
        bare.changesOnly("fault 3", x -> x.fault(3, 0), EnumSet.of(Probes.Part.FAULTS));
    }

    private static void makersAlone() {
        changes("made", x -> due.is("made", x.made(0, 1), 3), Probes.Part.HABITS);
        changes("made more", x -> due.is("made", x.made(0, 2), 9), Probes.Part.HABITS);
    }

    /** What is put back as it was must leave all other CAMS alone. */
    private static void oneCamAlone() {
        full.nothingChanges("a CAM lost and made again", x -> {
            x.lose(4);
            Due.cut(x, 4, 9, 8, 7);
        });
        full.nothingChanges("a CAM made and lost", x -> {
            x.blank(6);
            x.lose(6);
        });
        full.nothingChanges("a CAM made anew", x -> Due.cut(x, 11, 6, 6, 6));
        full.nothingChanges("a copy that is put back", x -> {
            x.copy(0, 0, 4, 0, 3);
            Due.cut(x, 4, 9, 8, 7);
        });
        full.nothingChanges("a height that is put back", x -> {
            x.cutAt(4, 1, 0);
            x.cutAt(4, 1, 8);
        });
    }

    private static void oneLetterAlone() {
        full.nothingChanges("a LETTER that is put back", x -> {
            x.letter(9, 11, 11, 11);
            x.letter(9, 3, 4, 2);
        });
        full.nothingChanges("a PEG more that is out", x -> {
            x.peg(9);
            x.unpeg();
        });
        full.nothingChanges("a PEG out that is back", x -> {
            x.unpeg();
            x.peg(9);
        });
    }

    private static void thereAndBack() {
        full.nothingChanges("turned, and on until it is round", x -> {
            x.turn(0, 1);
            x.turn(0, 2);
        });
        full.nothingChanges("see off and on", x -> {
            x.see(119, 9, false);
            x.see(119, 9, true);
        });
        full.nothingChanges("see on and off", x -> {
            x.see(50, 5, true);
            x.see(50, 5, false);
        });
        full.nothingChanges("FAULTS told otherwise and as they were", x -> {
            x.fault(1, 0);
            x.fault(2, 0);
            x.fault(3, 0);
            x.fault(3, 1);
            x.fault(2, 1);
            x.fault(1, 3);
        });
        full.nothingChanges("mended, and told again", x -> {
            x.mend();
            x.fault(2, 1);
            x.fault(3, 1);
            x.fault(1, 3);
        });
    }
}
