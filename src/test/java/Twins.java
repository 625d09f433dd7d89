import java.util.Arrays;
import java.util.EnumSet;
import java.util.List;
import java.util.Set;

/**
 * Two figures that were made and used alike, until one is called once more: what they hold then is
 * compared, part by part.
 */
final class Twins {
    interface Call {
        int on(CamFigures x);
    }

    interface Scene {
        void play(CamFigures x);
    }

    private static final Probes.Part[] PARTS = Probes.Part.values();
    private static final int REFUSALS = 7;

    private final Due due;
    private final Scene scene;

    Twins(Due due, Scene scene) {
        this.due = due;
        this.scene = scene;
    }

    private CamFigures figure() {
        CamFigures x = new CamFigures();
        scene.play(x);
        return x;
    }

    /** The call answers the number, nothing changes, and count tells one more of that refusal alone. */
    void refused(String name, int number, Call call) {
        CamFigures x = figure();
        int[] before = refusals(x);
        due.is(name, call.on(x), number);
        int[] after = refusals(x);
        for (int i = 0; i < REFUSALS; i++) {
            int more = number == -1 - i ? 1 : 0;
            due.is(name + ": more of count(" + (11 + i) + ")", after[i] - before[i], more);
        }
        due.is(name + ": told again", call.on(x), number);
        nothingChanges(name, y -> call.on(y));
    }

    /** The call answers that, it is no refusal, and nothing changes. */
    void quiet(String name, int answer, Call call) {
        CamFigures x = figure();
        int[] before = refusals(x);
        due.is(name, call.on(x), answer);
        due.is(name + ": refusals stay", Arrays.equals(before, refusals(x)) ? 1 : 0, 1);
        nothingChanges(name, y -> call.on(y));
    }

    void nothingChanges(String name, Scene more) {
        changesOnly(name, more, EnumSet.noneOf(Probes.Part.class));
    }

    /** What is played changes each of these parts, and no other. */
    void changesOnly(String name, Scene more, Set<Probes.Part> parts) {
        for (Probes.Part part : PARTS) {
            boolean same = true;
            for (int which = 0; which < Probes.figuresFor(part); which++) {
                CamFigures x = figure();
                more.play(x);
                List<Integer> got = Probes.ask(part, which, x);
                same &= got.equals(Probes.ask(part, which, figure()));
            }
            due.is(name + ": " + part + " changes", same ? 0 : 1, parts.contains(part) ? 1 : 0);
        }
    }

    private static int[] refusals(CamFigures x) {
        int[] told = new int[REFUSALS];
        for (int i = 0; i < REFUSALS; i++) {
            told[i] = x.count(11 + i);
        }
        return told;
    }
}
