/** The document's terms, sentence by sentence: the SPRING, a SHOW, SLOW, WEAR, WINDING, STRAIN. */
public final class SpringTermsTest {
    private static final Due due = new Due();

    public static void main(String[] args) {
        springAtFirst();
        eachPull();
        stopsWithLess();
        stopsAtEachStep();
        stopLeavesTheRest();
        wearIsNeededToo();
        slowByPowerAhead();
        slowIsOfEachStep();
        showIsFromTheFirstStep();
        doneOrNot();
        doneByNoStep();
        wearByHundreds();
        wearWithinAShow();
        wearIsOfStepsThatWereMade();
        powerIsAThousandAtMost();
        strainIfSomethingWasLost();
        windings();
        due.end();
    }

    /** PEGS of a LETTER that is one CELL, LENGTH steps each. */
    private static CamFigures figure(int length, int pegs, int pull) {
        CamFigures x = new CamFigures();
        x.length(length);
        x.blank(0);
        for (int k = 0; k < pegs; k++) {
            x.peg(0);
        }
        x.pull(pull);
        return x;
    }

    private static void counts(String when, CamFigures x, int power, int wear, int ticks, int steps) {
        due.is(when + ": POWER", x.count(3), power);
        due.is(when + ": WEAR", x.count(4), wear);
        due.is(when + ": ticks", x.count(6), ticks);
        due.is(when + ": steps", x.count(7), steps);
    }

    /** "POWER 0 .. 1000 (0 at first)", "PULL (1 .. 20; 2 at first)", "WEAR more (0 at first)". */
    private static void springAtFirst() {
        CamFigures x = new CamFigures();
        counts("at first", x, 0, 0, 0, 0);
        due.is("STRAIN", x.count(5), 0);
        due.is("SHOWS", x.count(8), 0);
        due.is("DONE", x.count(9), 0);
        due.is("PULL", x.pull(1), 2);
        CamFigures y = new CamFigures();
        y.length(2);
        y.blank(0);
        y.peg(0);
        y.wind(4);
        due.is("a step needs 2 at first", y.show(), 2);
        due.is("POWER", y.count(3), 0);
    }

    private static void eachPull() {
        for (int pull = 1; pull <= 20; pull++) {
            CamFigures x = figure(2, 1, pull);
            x.wind(100);
            due.is("show", x.show(), 2);
            due.is("PULL " + pull, x.count(3), 100 - 2 * pull);
            due.is("as it was told", x.pull(1), pull);
        }
    }

    /** "with less it STOPS there": as much as it needs is enough, one less is not. */
    private static void stopsWithLess() {
        for (int pull = 1; pull <= 20; pull++) {
            CamFigures x = figure(2, 1, pull);
            x.wind(pull - 1);
            due.is("one too little", x.show(), 0);
            counts("one too little", x, pull - 1, 0, 0, 0);
            due.is("marks", x.marks(), 0);
            x.wind(1);
            due.is("just enough for a step", x.show(), 1);
            counts("just enough", x, 0, 0, 4, 1);
            due.is("marks", x.marks(), 1);
            x.wind(2 * pull - 1);
            due.is("one too little for the second", x.show(), 1);
            due.is("which is left", x.count(3), pull - 1);
            x.wind(pull + 1);
            due.is("just enough for both", x.show(), 2);
            due.is("none is left", x.count(3), 0);
        }
    }

    /** It may STOP at each step of each PEG; what was written until then is on the PAPER. */
    private static void stopsAtEachStep() {
        for (int steps = 0; steps <= 12; steps++) {
            CamFigures x = new CamFigures();
            x.length(4);
            Due.cut(x, 0, 0, 3, 3, 0);
            Due.cut(x, 1, 0, 0, 3, 3);
            x.blank(2);
            x.letter(0, 0, 1, 2);
            x.peg(0);
            x.peg(0);
            x.peg(0);
            x.wind(2 * steps + 1);
            due.is("show", x.show(), steps);
            int[] cells = {0, 1, 4, 7, 10};
            due.is("marks", x.marks(), steps / 4 * 10 + cells[steps % 4]);
            due.is("DONE", x.count(9), steps == 12 ? 1 : 0);
            due.is("POWER", x.count(3), 1);
        }
    }

    /** A LINE is of the step at its end: if that is not made, nothing of it is there. */
    private static void stopLeavesTheRest() {
        CamFigures x = new CamFigures();
        x.length(2);
        Due.cut(x, 0, 0, 9);
        x.blank(1);
        x.letter(0, 0, 1, 1);
        x.peg(0);
        x.wind(3);
        due.is("show", x.show(), 1);
        due.paper("its first end alone", x, 0, 0);
    }

    /** "needs PULL .. of it, and WEAR more". */
    private static void wearIsNeededToo() {
        CamFigures x = figure(10, 10, 1);
        x.wind(1000);
        due.is("show", x.show(), 100);
        counts("after a hundred", x, 900, 1, 100, 100);
        while (x.count(2) > 1) {
            x.unpeg();
        }
        x.length(2);
        x.blank(0);
        x.pull(20);
        for (int i = 0; i < 21; i++) {
            x.show();
        }
        due.is("21 SHOWS of 42", x.count(3), 900 - 21 * 42);
        x.wind(2);
        due.is("PULL alone is too little", x.show(), 0);
        due.is("POWER", x.count(3), 20);
        x.wind(1);
        due.is("PULL and WEAR", x.show(), 1);
        due.is("POWER", x.count(3), 0);
    }

    /** "SLOW of a step by POWER ahead of it: 1 with 500 or more, 2 with 200 or more, else 4". */
    private static void slowByPowerAhead() {
        for (int power = 1; power <= 1000; power++) {
            CamFigures x = figure(2, 1, 1);
            x.pull(Math.min(20, power));
            x.wind(power);
            int second = power - Math.min(20, power);
            x.show();
            int ticks = slow(power) + (second >= Math.min(20, power) ? slow(second) : 0);
            due.is("ticks by POWER " + power, x.count(6), ticks);
        }
    }

    private static int slow(int power) {
        return power > 499 ? 1 : power > 199 ? 2 : 4;
    }

    /** "ticks go on by SLOW of each step", from SHOW to SHOW. */
    private static void slowIsOfEachStep() {
        CamFigures x = figure(16, 3, 10);
        x.wind(1000);
        x.show();
        counts("48 at 1000 and less", x, 520, 0, 48, 48);
        x.show();
        counts("3 at 500 or more, 30 at 200 or more, 15 below", x, 40, 0, 48 + 3 + 60 + 60, 96);
        x.show();
        counts("4 below, then it STOPS", x, 0, 1, 48 + 123 + 16, 100);
    }

    /** "on new paper, from its first step on". */
    private static void showIsFromTheFirstStep() {
        CamFigures x = figure(4, 2, 2);
        x.wind(9);
        due.is("it STOPS at PEG 0's end", x.show(), 4);
        due.paper("PEG 0", x, 0, 0);
        x.wind(3);
        due.is("PEG 0 again", x.show(), 2);
        due.paper("PEG 0 again", x, 0, 0);
        due.is("FIRST", x.first(0, 0, 1), 0);
        due.is("nothing", x.show(), 0);
        due.paper("new paper without marks", x);
        due.is("SHOWS", x.count(8), 3);
        due.is("DONE", x.count(9), 0);
    }

    /** "until it is done or the figure STOPS .. it is DONE, or not". */
    private static void doneOrNot() {
        CamFigures x = figure(2, 3, 2);
        x.wind(11);
        due.is("one step too few", x.show(), 5);
        due.is("not DONE", x.count(9), 0);
        x.wind(11);
        due.is("all", x.show(), 6);
        due.is("DONE by the last of the POWER", x.count(9), 1);
        due.is("POWER", x.count(3), 0);
        due.is("SHOWS", x.count(8), 2);
    }

    private static void doneByNoStep() {
        CamFigures x = figure(2, 1, 20);
        x.fault(2, 0);
        due.is("its one PEG is LOOSE", x.show(), 0);
        due.is("DONE without POWER", x.count(9), 1);
        x.unpeg();
        due.is("no PEG", x.show(), 0);
        due.is("DONE without POWER", x.count(9), 2);
        due.is("SHOWS", x.count(8), 2);
        due.is("ticks", x.count(6), 0);
    }

    /** "WEAR becomes 1 more with each 100 steps that were ever made (20 at most)". */
    private static void wearByHundreds() {
        CamFigures x = figure(10, 5, 1);
        for (int made = 0; made < 2000; made += 50) {
            x.wind(5000);
            due.is("WEAR after " + made, x.count(4), made / 100);
            due.is("show", x.show(), 50);
            due.is("POWER", x.count(3), 1000 - 50 * (1 + made / 100));
        }
        for (int made = 2000; made < 2300; made += 47) {
            x.wind(5000);
            due.is("WEAR after " + made, x.count(4), 20);
            due.is("it STOPS", x.show(), 47);
            due.is("POWER", x.count(3), 1000 - 47 * 21);
        }
        due.is("WEAR", x.count(4), 20);
        due.is("steps", x.count(7), 2329);
    }

    /** The hundredth step needs no more yet, the next one does. */
    private static void wearWithinAShow() {
        CamFigures x = figure(3, 11, 1);
        x.wind(1000);
        for (int i = 0; i < 3; i++) {
            due.is("show", x.show(), 33);
        }
        counts("99 steps", x, 901, 0, 99, 99);
        due.is("show", x.show(), 33);
        counts("1 by 1, 32 by 2", x, 836, 1, 132, 132);
    }

    private static void wearIsOfStepsThatWereMade() {
        CamFigures x = figure(10, 10, 1);
        x.wind(99);
        due.is("it STOPS", x.show(), 99);
        due.is("WEAR", x.count(4), 0);
        for (int i = 0; i < 20; i++) {
            due.is("no step", x.show(), 0);
        }
        due.is("WEAR", x.count(4), 0);
        x.wind(1);
        due.is("one step", x.show(), 1);
        due.is("WEAR", x.count(4), 1);
        x.length(2);
        due.is("WEAR stays", x.count(4), 1);
    }

    /** "POWER becomes more, 1000 at most; what is more than that is lost". */
    private static void powerIsAThousandAtMost() {
        for (int n : new int[] {0, 1, 999, 1000}) {
            CamFigures x = new CamFigures();
            due.is("wind(" + n + ")", x.wind(n), n);
            due.is("POWER", x.count(3), n);
            due.is("nothing was lost", x.count(5), 0);
        }
        for (int n : new int[] {1001, 2000, 4999, 5000}) {
            CamFigures x = new CamFigures();
            due.is("wind(" + n + ")", x.wind(n), 1000);
            due.is("POWER", x.count(3), 1000);
            due.is("STRAIN", x.count(5), 1);
        }
    }

    /** "after a winding by which something was lost the SPRING has STRAIN (counted)". */
    private static void strainIfSomethingWasLost() {
        CamFigures x = new CamFigures();
        x.wind(600);
        due.is("to the full", x.wind(400), 1000);
        due.is("STRAIN", x.count(5), 0);
        due.is("by nothing", x.wind(0), 1000);
        due.is("STRAIN", x.count(5), 0);
        due.is("one is lost", x.wind(1), 1000);
        due.is("STRAIN", x.count(5), 1);
        due.is("5000 are lost", x.wind(5000), 1000);
        due.is("STRAIN", x.count(5), 2);
        due.is("refused", x.wind(5001), -6);
        due.is("STRAIN", x.count(5), 2);
    }

    private static void windings() {
        CamFigures x = new CamFigures();
        int power = 0;
        for (int n = 0; n < 40; n++) {
            power += n;
            due.is("wind(" + n + ")", x.wind(n), power);
        }
        due.is("780", x.count(3), 780);
        due.is("wind(221)", x.wind(221), 1000);
        due.is("STRAIN", x.count(5), 1);
    }
}
