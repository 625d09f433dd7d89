import java.util.Arrays;
import java.util.Random;

/** All promises: runs of 512 calls at random, the same each time, held against PlainFigures. */
public final class RandomRunsTest {
    private static final int RUNS = 600;
    private static final int CALLS = 512;
    private static final String[] NAMES = {"length", "blank", "lose", "cutAt", "height", "copy", "turn", "blanks",
        "camOf", "letter", "isCut", "peg", "unpeg", "advance", "pull", "wind", "show", "marked", "first", "marks",
        "see", "fault", "mend", "explained", "made", "like", "whose", "count"};
    /** How often each is called; the rare ones undo what the others build. */
    private static final int[] WEIGHTS = {1, 24, 1, 40, 4, 8, 8, 4, 12, 12, 3, 14, 3, 3, 3, 10, 24, 8, 12, 6,
        6, 12, 4, 24, 8, 8, 8, 16};
    /** The greatest argument, of each place, of which more is refused. */
    private static final int[][] MOST = {{16}, {11}, {11}, {11, 15, 9}, {11, 15}, {11, 15, 11, 15, 16}, {11, 15}, {},
        {11, 2}, {9, 11, 11, 11}, {9}, {9}, {}, {9}, {20}, {5000}, {}, {119, 9}, {119, 9, 1}, {},
        {119, 9, 1}, {3, 11}, {}, {1}, {11, 3}, {11, 3}, {11}, {17}};

    private final Random random;
    private final int spread;

    private RandomRunsTest(int run) {
        random = new Random(run);
        spread = 1 + run % 3;
    }

    public static void main(String[] args) {
        for (int run = 0; run < RUNS; run++) {
            if (!new RandomRunsTest(run).isRight(run)) {
                System.exit(1);
            }
        }
    }

    private boolean isRight(int run) {
        CamFigures x = new CamFigures();
        PlainFigures plain = new PlainFigures();
        for (int n = 0; n < CALLS; n++) {
            int which = n < 14 ? 1 : choose();
            int[] a = arguments(which);
            if (n < 14) {
                a[0] = n % 12;
            }
            int got = answer(x, NAMES[which], a);
            int want = plain.call(NAMES[which], a);
            if (got != want) {
                System.out.println("run " + run + ", call " + n + ": " + NAMES[which] + Arrays.toString(a)
                    + " answered " + got + ", due is " + want);
                return false;
            }
        }
        return true;
    }

    private int choose() {
        int at = random.nextInt(Arrays.stream(WEIGHTS).sum());
        int which = 0;
        while (at >= WEIGHTS[which]) {
            at -= WEIGHTS[which];
            which++;
        }
        return which;
    }

    private int[] arguments(int which) {
        int[] a = new int[MOST[which].length];
        for (int i = 0; i < a.length; i++) {
            boolean isFlag = NAMES[which].equals("see") && i == 2;
            a[i] = isFlag ? random.nextInt(2) : argument(MOST[which][i]);
        }
        if (NAMES[which].equals("wind") && random.nextInt(3) > 0) {
            a[0] = random.nextInt(700);
        }
        if (NAMES[which].equals("first") || NAMES[which].equals("marked") || NAMES[which].equals("see")) {
            a[0] = random.nextInt(8) > 0 ? random.nextInt(20) : a[0];
        }
        return a;
    }

    /** Mostly a good one, of few in some runs, so that CAMS are alike; seldom one beyond. */
    private int argument(int most) {
        int dice = random.nextInt(60);
        if (dice == 0) {
            return -1;
        }
        if (dice == 1) {
            return most + 1;
        }
        if (dice == 2) {
            return Due.FAR[random.nextInt(Due.FAR.length)];
        }
        return random.nextInt(most / (dice < 40 ? spread : 1) + 1);
    }

    private static int answer(CamFigures x, String name, int[] a) {
        switch (name) {
            case "length": return x.length(a[0]);
            case "blank": return x.blank(a[0]);
            case "lose": return x.lose(a[0]);
            case "cutAt": return x.cutAt(a[0], a[1], a[2]);
            case "height": return x.height(a[0], a[1]);
            case "copy": return x.copy(a[0], a[1], a[2], a[3], a[4]);
            case "turn": return x.turn(a[0], a[1]);
            case "blanks": return x.blanks();
            case "camOf": return x.camOf(a[0], a[1]);
            case "letter": return x.letter(a[0], a[1], a[2], a[3]);
            case "isCut": return x.isCut(a[0]);
            case "peg": return x.peg(a[0]);
            case "unpeg": return x.unpeg();
            case "advance": return x.advance(a[0]);
            case "pull": return x.pull(a[0]);
            case "wind": return x.wind(a[0]);
            case "show": return x.show();
            case "marked": return x.marked(a[0], a[1]);
            case "first": return x.first(a[0], a[1], a[2]);
            case "marks": return x.marks();
            case "see": return x.see(a[0], a[1], a[2] == 1);
            case "fault": return x.fault(a[0], a[1]);
            case "mend": return x.mend();
            case "explained": return x.explained(a[0]);
            case "made": return x.made(a[0], a[1]);
            case "like": return x.like(a[0], a[1]);
            case "whose": return x.whose(a[0]);
            default: return x.count(a[0]);
        }
    }
}
