/** Promises 26 to 28: MAKERS and their HABITS. */
public final class MakersTest {
    private static final Due due = new Due();

    public static void main(String[] args) {
        made();
        madeHasRoom();
        like();
        whose();
        whoseByFractions();
        whoseOfSeveral();
        habitsStay();
        refuse();
        due.end();
    }

    private static void made() {
        CamFigures x = new CamFigures();
        x.length(4);
        Due.cut(x, 0, 1, 1, 2, 3);
        due.is("made", x.made(0, 0), 4);
        due.is("once more", x.made(0, 0), 8);
        due.is("another MAKER", x.made(0, 3), 4);
        x.length(6);
        x.blank(0);
        due.is("a longer CAM", x.made(0, 0), 14);
    }

    private static void madeHasRoom() {
        CamFigures x = new CamFigures();
        x.length(16);
        x.blank(0);
        for (int n = 1; n <= 62; n++) {
            due.is("made", x.made(0, 2), 16 * n);
        }
        due.is("above 1000", x.made(0, 2), -6);
        x.length(9);
        x.blank(0);
        due.is("1001", x.made(0, 2), -6);
        x.length(8);
        x.blank(0);
        due.is("1000", x.made(0, 2), 1000);
        x.length(2);
        x.blank(0);
        due.is("1002", x.made(0, 2), -6);
        due.is("-1 ahead of -6", x.made(12, 2), -1);
        due.is("-5 ahead of -6", x.made(1, 2), -5);
        due.is("likeness is as it was", x.like(0, 2), 0);
        due.is("another MAKER", x.made(0, 1), 2);
        due.refusals(x, 1, 0, 0, 0, 1, 3, 0);
        Due.cut(x, 0, 9, 9);
        due.is("2 times 1000, and 1000 times 2", x.like(0, 2), 4000);
    }

    private static void like() {
        CamFigures x = new CamFigures();
        x.length(4);
        Due.cut(x, 0, 1, 1, 2, 9);
        Due.cut(x, 1, 1, 2, 2, 0);
        x.made(0, 1);
        due.is("the same", x.like(0, 1), 0);
        due.is("4 of 0, 4 of 1, 4 of 2, 4 of 9", x.like(1, 1), 16);
        x.made(1, 1);
        due.is("4 of 0, 4 of 1, 4 of 2, 4 of 9", x.like(0, 1), 16);
        x.turn(0, 3);
        due.is("a turn does not matter", x.like(0, 1), 16);
        x.length(2);
        Due.cut(x, 0, 0, 9);
        due.is("another LENGTH", x.like(0, 1), 24);
    }

    private static void whose() {
        CamFigures x = new CamFigures();
        x.length(4);
        Due.cut(x, 0, 1, 1, 1, 1);
        Due.cut(x, 1, 2, 2, 2, 2);
        Due.cut(x, 2, 1, 2, 2, 2);
        due.is("no MAKER cut anything", x.whose(0), -9);
        x.made(0, 3);
        due.is("the one MAKER", x.whose(1), 3);
        x.made(1, 2);
        due.is("its own", x.whose(0), 3);
        due.is("its own", x.whose(1), 2);
        due.is("nearer to 2", x.whose(2), 2);
        x.cutAt(2, 1, 1);
        x.cutAt(2, 2, 1);
        due.is("nearer to 3", x.whose(2), 3);
        due.refusals(x, 0, 0, 0, 0, 0, 0, 0);
    }

    /** MAKER 1 has the greater LIKENESS, but by all it cut the less. */
    private static void whoseByFractions() {
        CamFigures x = new CamFigures();
        x.length(4);
        Due.cut(x, 0, 1, 1, 5, 5);
        Due.cut(x, 1, 1, 1, 1, 5);
        Due.cut(x, 2, 1, 1, 1, 1);
        x.made(0, 0);
        for (int n = 0; n < 3; n++) {
            x.made(1, 1);
        }
        x.made(2, 1);
        due.is("like 0", x.like(2, 0), 16);
        due.is("like 1", x.like(2, 1), 24);
        due.is("24 by 16 is less than 16 by 4", x.whose(2), 1);
        x.made(0, 1);
        x.made(0, 1);
        due.is("8 by 4 and 56 by 24", x.whose(1), 1);
        thirds();
    }

    /** 2/3 against 666/1000 and 668/1000 and such: no rounding. */
    private static void thirds() {
        CamFigures x = new CamFigures();
        x.length(3);
        Due.cut(x, 0, 0, 0, 1);
        for (int n = 0; n < 333; n++) {
            x.made(0, 0);
        }
        Due.cut(x, 1, 0, 0, 0);
        x.made(0, 1);
        due.is("2/3 of both: the least number", x.whose(1), 0);
        due.is("like 0", x.like(1, 0), 1998);
        due.is("like 1", x.like(1, 1), 6);
        CamFigures y = new CamFigures();
        y.length(3);
        Due.cut(y, 0, 0, 0, 1);
        Due.cut(y, 1, 0, 0, 0);
        for (int n = 0; n < 332; n++) {
            y.made(0, 0);
        }
        y.made(0, 1);
        Due.cut(y, 2, 0, 1, 1);
        y.made(2, 0);
        due.is("a bit more than 2/3", y.whose(1), 1);
        y.made(1, 2);
        due.is("its own", y.whose(1), 2);
    }

    private static void whoseOfSeveral() {
        CamFigures x = new CamFigures();
        x.length(2);
        Due.cut(x, 0, 1, 1);
        Due.cut(x, 1, 2, 2);
        Due.cut(x, 2, 3, 3);
        x.made(0, 3);
        x.made(1, 1);
        x.made(1, 1);
        due.is("the least number of several", x.whose(2), 1);
        x.made(2, 3);
        due.is("MAKER 3 cut it, too", x.whose(2), 3);
    }

    private static void habitsStay() {
        CamFigures x = new CamFigures();
        x.length(2);
        Due.cut(x, 0, 4, 5);
        x.made(0, 0);
        Due.cut(x, 0, 7, 7);
        due.is("cut anew", x.like(0, 0), 8);
        x.lose(0);
        x.length(2);
        Due.cut(x, 0, 5, 4);
        due.is("HABITS stay", x.like(0, 0), 0);
    }

    private static void refuse() {
        CamFigures x = new CamFigures();
        x.blank(0);
        x.made(0, 0);
        due.is("made: -1 CAM", x.made(12, 0), -1);
        due.is("made: -1 MAKER", x.made(0, 4), -1);
        due.is("made: -1 MAKER below", x.made(0, -1), -1);
        due.is("made: -1 ahead of -5", x.made(1, 4), -1);
        due.is("made: -5", x.made(1, 0), -5);
        due.is("like: -1 CAM", x.like(-1, 0), -1);
        due.is("like: -1 MAKER", x.like(0, 4), -1);
        due.is("like: -1 ahead of -5", x.like(1, -1), -1);
        due.is("like: -5 ahead of -3", x.like(1, 1), -5);
        due.is("like: -3", x.like(0, 1), -3);
        due.is("whose: -1", x.whose(12), -1);
        due.is("whose: -1 below", x.whose(-1), -1);
        due.is("whose: -5", x.whose(11), -5);
        due.is("whose: -5 ahead of -9", new CamFigures().whose(0), -5);
        for (int far : Due.FAR) {
            due.is("made: far CAM", x.made(far, 0), -1);
            due.is("made: far MAKER", x.made(0, far), -1);
            due.is("like: far CAM", x.like(far, 0), -1);
            due.is("like: far MAKER", x.like(0, far), -1);
            due.is("whose: far CAM", x.whose(far), -1);
        }
        due.refusals(x, 39, 0, 1, 0, 3, 0, 0);
    }
}
