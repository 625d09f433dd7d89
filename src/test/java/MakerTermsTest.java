import java.util.Arrays;

/** The document's terms, sentence by sentence: MAKERS, HABITS, LIKENESS, WHOSE. */
public final class MakerTermsTest {
    private static final Due due = new Due();

    public static void main(String[] args) {
        makersAreFour();
        habitsAtFirst();
        allHeightsCount();
        habitsAddUp();
        aThousandAtMost();
        likenessBySum();
        likenessByLengthNow();
        mostLikeness();
        whoCutNothingIsNone();
        whoseIsTheLeast();
        whoseByFraction();
        whoseExactly();
        whoseOfSeveral();
        due.end();
    }

    private static CamFigures ofLength(int length) {
        CamFigures x = new CamFigures();
        x.length(length);
        return x;
    }

    /** CAM 0 becomes flat, at that height. */
    private static void flat(CamFigures x, int length, int v) {
        int[] row = new int[length];
        Arrays.fill(row, v);
        Due.cut(x, 0, row);
    }

    /** "MAKERS 0 to 3". */
    private static void makersAreFour() {
        CamFigures x = ofLength(2);
        x.blank(0);
        for (int maker = 0; maker <= 3; maker++) {
            for (int other = 0; other <= 3; other++) {
                due.is("MAKER " + other, x.like(0, other), other < maker ? 0 : -3);
            }
            due.is("made", x.made(0, maker), 2);
        }
        due.is("MAKER -1", x.made(0, -1), -1);
        due.is("MAKER 4", x.made(0, 4), -1);
    }

    /** "how often it was cut (0 at first". */
    private static void habitsAtFirst() {
        CamFigures x = new CamFigures();
        x.blank(0);
        for (int maker = 0; maker <= 3; maker++) {
            due.is("like", x.like(0, maker), -3);
        }
        due.is("whose", x.whose(0), -9);
    }

    /** "for each height 0 .. 9", "all heights of such a CAM count": by a flat CAM, 4 times all less those. */
    private static void allHeightsCount() {
        CamFigures x = ofLength(16);
        int[] times = {1, 0, 2, 1, 0, 3, 1, 2, 1, 5};
        Due.cut(x, 1, 9, 9, 9, 9, 9, 8, 7, 7, 6, 5, 5, 5, 3, 2, 2, 0);
        due.is("made", x.made(1, 2), 16);
        x.length(2);
        for (int v = 0; v <= 9; v++) {
            flat(x, 2, v);
            due.is("height " + v, x.like(0, 2), 4 * (16 - times[v]));
        }
    }

    /** CAMS of several LENGTHS, and one CAM several times. */
    private static void habitsAddUp() {
        CamFigures x = ofLength(2);
        int all = 0;
        for (int length = 2; length <= 16; length++) {
            x.length(length);
            flat(x, length, length % 10);
            all += length;
            due.is("made", x.made(0, 1), all);
        }
        due.is("once more", x.made(0, 1), all + 16);
        x.length(2);
        flat(x, 2, 6);
        due.is("6 by 6 and by 16", x.like(0, 1), 4 * (all + 16 - 6 - 16 - 16));
        flat(x, 2, 2);
        due.is("2 by 2 and by 12", x.like(0, 1), 4 * (all + 16 - 2 - 12));
    }

    /** made: "-6 that would be above 1000"; 1000 is not. */
    private static void aThousandAtMost() {
        for (int length = 2; length <= 16; length++) {
            CamFigures x = ofLength(16);
            x.blank(0);
            for (int n = 0; n < 61; n++) {
                x.made(0, 0);
            }
            fill(x, 1000 - 61 * 16 - length);
            x.length(length);
            x.blank(0);
            due.is("to 1000, by " + length, x.made(0, 0), 1000);
            due.is("more", x.made(0, 0), -6);
            due.is("by another MAKER", x.made(0, 1), length);
        }
        CamFigures x = ofLength(16);
        x.blank(0);
        for (int n = 0; n < 61; n++) {
            x.made(0, 3);
        }
        fill(x, 3, 9);
        x.length(16);
        x.blank(0);
        due.is("1001", x.made(0, 3), -6);
        x.length(15);
        x.blank(0);
        due.is("1000", x.made(0, 3), 1000);
        x.length(2);
        x.blank(0);
        due.is("1002", x.made(0, 3), -6);
    }

    private static void fill(CamFigures x, int heights) {
        fill(x, 0, heights);
    }

    /** So many heights more, by CAMS of some LENGTH. */
    private static void fill(CamFigures x, int maker, int heights) {
        int left = heights;
        while (left > 0) {
            int length = left > 17 ? 16 : left == 17 ? 15 : left;
            x.length(length);
            x.blank(0);
            x.made(0, maker);
            left -= length;
        }
    }

    /** "times it is in the CAM, times all that the MAKER cut, less times the MAKER cut it, times LENGTH". */
    private static void likenessBySum() {
        CamFigures x = ofLength(5);
        Due.cut(x, 0, 0, 0, 1, 2, 9);
        Due.cut(x, 1, 0, 3, 3, 9, 9);
        x.made(0, 0);
        x.made(0, 0);
        x.made(1, 0);
        due.is("15 - 25, 0 - 10, 0 - 10, 30 - 10, 30 - 20", x.like(1, 0), 10 + 10 + 10 + 20 + 10);
        due.is("30 - 25, 15 - 10, 15 - 10, 0 - 10, 15 - 20", x.like(0, 0), 5 + 5 + 5 + 10 + 5);
    }

    private static void likenessByLengthNow() {
        CamFigures x = ofLength(5);
        Due.cut(x, 0, 0, 0, 1, 2, 9);
        x.made(0, 0);
        x.length(2);
        Due.cut(x, 0, 0, 7);
        due.is("5 - 4, 0 - 2, 0 - 2, 5, 0 - 2", x.like(0, 0), 1 + 2 + 2 + 5 + 2);
        x.length(10);
        Due.cut(x, 0, 0, 0, 0, 0, 1, 1, 2, 2, 9, 9);
        due.is("twice the CAM", x.like(0, 0), 0);
    }

    private static void mostLikeness() {
        CamFigures x = ofLength(16);
        flat(x, 16, 9);
        for (int n = 0; n < 62; n++) {
            x.made(0, 0);
        }
        fill(x, 8);
        x.length(16);
        flat(x, 16, 5);
        due.is("16 times 1000, 992 times 16, 8 times 16", x.like(0, 0), 32000);
        due.is("made more", x.made(0, 1), 16);
        due.is("whose", x.whose(0), 1);
    }

    /** "a MAKER who cut nothing is none". */
    private static void whoCutNothingIsNone() {
        for (int maker = 0; maker <= 3; maker++) {
            CamFigures x = ofLength(2);
            flat(x, 2, 1);
            x.made(0, maker);
            flat(x, 2, 8);
            due.is("not alike, but the only one", x.whose(0), maker);
            due.is("like", x.like(0, maker), 8);
            for (int other = 0; other <= 3; other++) {
                due.is("like " + other, x.like(0, other), other == maker ? 8 : -3);
            }
        }
    }

    /** "WHOSE: the MAKER by whom LIKENESS by all it cut is least". */
    private static void whoseIsTheLeast() {
        CamFigures x = ofLength(4);
        int[][] rows = {{1, 1, 1, 1}, {1, 1, 1, 2}, {1, 1, 2, 2}, {1, 2, 2, 2}};
        for (int maker = 0; maker <= 3; maker++) {
            Due.cut(x, 0, rows[maker]);
            x.made(0, 3 - maker);
        }
        for (int maker = 0; maker <= 3; maker++) {
            Due.cut(x, 0, rows[maker]);
            due.is("its own", x.whose(0), 3 - maker);
        }
        Due.cut(x, 0, 2, 2, 2, 2);
        due.is("the nearest", x.whose(0), 0);
    }

    /** A greater LIKENESS may be less by all that was cut. */
    private static void whoseByFraction() {
        CamFigures x = ofLength(2);
        Due.cut(x, 0, 1, 2);
        x.made(0, 0);
        for (int n = 0; n < 9; n++) {
            Due.cut(x, 0, 1, 1);
            x.made(0, 1);
        }
        Due.cut(x, 0, 1, 2);
        x.made(0, 1);
        x.made(0, 1);
        Due.cut(x, 0, 1, 1);
        due.is("4 by 2", x.like(0, 0), 4);
        due.is("8 by 22", x.like(0, 1), 8);
        due.is("the less by all", x.whose(0), 1);
    }

    /** "(fractions are compared exactly)": 2/499 and 2/500 and such are not one. */
    private static void whoseExactly() {
        CamFigures x = ofLength(16);
        flat(x, 16, 1);
        for (int n = 0; n < 61; n++) {
            x.made(0, 0);
            x.made(0, 1);
        }
        x.length(2);
        Due.cut(x, 0, 1, 7);
        x.made(0, 0);
        x.made(0, 1);
        flat(x, 2, 1);
        due.is("the same: the least number", x.whose(0), 0);
        x.made(0, 1);
        due.is("1 of 978", x.like(0, 0), 4);
        due.is("1 of 980", x.like(0, 1), 4);
        due.is("4 by 980 is less than 4 by 978", x.whose(0), 1);
        x.made(0, 0);
        due.is("the same again", x.whose(0), 0);
        flat(x, 2, 7);
        due.is("979 of 980 for both", x.whose(0), 0);
        flat(x, 2, 1);
        x.made(0, 0);
        flat(x, 2, 7);
        due.is("981 of 982 is more than 979 of 980", x.whose(0), 1);
    }

    /** "of several the least number". */
    private static void whoseOfSeveral() {
        for (int least = 0; least <= 3; least++) {
            CamFigures x = ofLength(2);
            flat(x, 2, 1);
            for (int maker = 3; maker >= least; maker--) {
                x.made(0, maker);
                x.made(0, 3);
            }
            due.is("all are alike", x.whose(0), least);
            flat(x, 2, 2);
            due.is("none is alike", x.whose(0), least);
        }
    }
}
