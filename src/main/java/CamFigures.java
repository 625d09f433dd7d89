import java.util.Arrays;

/** Clockwork figures that write by cams; ../shared/DOC.md tells what each call promises. */
public final class CamFigures {
    private static final int NOBODY = -1;
    private static final int OTHER = -2;
    private static final int STATE = -3;
    private static final int BELOW = -4;
    private static final int MISSING = -5;
    private static final int ROOM = -6;
    private static final int BEYOND = -7;
    private static final int NONE = -9;

    private static final int LEAST_LENGTH = 2;
    private static final int MOST_LENGTH = 16;
    private static final int CAMS = 12;
    private static final int MOST_HEIGHT = 9;
    private static final int LETTERS = 10;
    private static final int MOST_PEGS = 12;
    private static final int MOST_ADVANCE = 9;
    private static final int MOST_PULL = 20;
    private static final int MOST_WINDING = 5000;
    private static final int MAKERS = 4;
    private static final int MOST_CUT = 1000;

    private static final int NO_FAULT = 0;
    private static final int WORN = 1;
    private static final int LOOSE = 2;
    private static final int BENT = 3;
    private static final int LEVERS = 2;

    private final Cams cams;
    private final Message message;
    private final Spring spring;
    private final Paper paper;
    private final Faults faults;
    private final Hand hand;
    private final Guess guess;
    private final Makers makers;
    private final int[] refusals;
    private int shows;
    private int showsDone;

    public CamFigures() {
        cams = new Cams();
        message = new Message();
        spring = new Spring();
        paper = new Paper(true);
        faults = new Faults();
        hand = new Hand(cams, message);
        guess = new Guess(hand, cams, message);
        makers = new Makers();
        refusals = new int[7];
        shows = 0;
        showsDone = 0;
    }

    public int length(int n) {
        if (n < LEAST_LENGTH) {
            return refuse(BELOW);
        }
        if (n > MOST_LENGTH) {
            return refuse(ROOM);
        }
        int before = cams.steps();
        cams.startAnew(n);
        paper.clear();
        return before;
    }

    public int blank(int cam) {
        if (!isCam(cam)) {
            return refuse(NOBODY);
        }
        int answer = cams.isThere(cam) ? 0 : 1;
        cams.makeFlat(cam);
        return answer;
    }

    public int lose(int cam) {
        int refusal = refusalOfCam(cam);
        if (refusal != 0) {
            return refuse(refusal);
        }
        cams.remove(cam);
        return 1;
    }

    public int cutAt(int cam, int step, int v) {
        int refusal = refusalOfStep(cam, step);
        if (refusal != 0) {
            return refuse(refusal);
        }
        if (v < 0) {
            return refuse(BELOW);
        }
        if (v > MOST_HEIGHT) {
            return refuse(ROOM);
        }
        int before = cams.heightAt(cam, step);
        cams.setHeight(cam, step, v);
        return before;
    }

    public int height(int cam, int step) {
        int refusal = refusalOfStep(cam, step);
        if (refusal != 0) {
            return refuse(refusal);
        }
        return cams.heightAt(cam, step);
    }

    public int copy(int a, int i, int b, int j, int n) {
        if (!isCam(a) || !isCam(b)) {
            return refuse(NOBODY);
        }
        if (!cams.isThere(a) || !cams.isThere(b)) {
            return refuse(MISSING);
        }
        if (!cams.hasSpan(i, n) || !cams.hasSpan(j, n)) {
            return refuse(BEYOND);
        }
        cams.copySpan(a, i, b, j, n);
        return n;
    }

    public int turn(int cam, int n) {
        int refusal = refusalOfStep(cam, n);
        if (refusal != 0) {
            return refuse(refusal);
        }
        cams.rotate(cam, n);
        return 1;
    }

    public int blanks() {
        return cams.blanksBelow(CAMS);
    }

    public int camOf(int cam, int what) {
        int refusal = refusalOfCam(cam);
        if (refusal != 0) {
            return refuse(refusal);
        }
        switch (what) {
            case 0:
                return cams.blanksBelow(cams.leastAlike(cam));
            case 1:
                return cams.stepsBetween(cams.leastAlike(cam), cam);
            case 2:
                return cams.greatestStep(cam);
            default:
                return refuse(OTHER);
        }
    }

    public int letter(int l, int across, int up, int lift) {
        if (!isLetter(l) || !isCam(across) || !isCam(up) || !isCam(lift)) {
            return refuse(NOBODY);
        }
        message.setCams(l, across, up, lift);
        return 1;
    }

    public int isCut(int l) {
        if (!isLetter(l)) {
            return refuse(NOBODY);
        }
        return message.hasAllCams(l, cams) ? 1 : 0;
    }

    public int peg(int l) {
        if (!isLetter(l)) {
            return refuse(NOBODY);
        }
        if (message.pegs() >= MOST_PEGS) {
            return refuse(ROOM);
        }
        message.addPeg(l);
        return message.pegs();
    }

    public int unpeg() {
        if (message.pegs() <= 0) {
            return refuse(STATE);
        }
        message.dropPeg();
        return message.pegs();
    }

    public int advance(int n) {
        if (n < 0) {
            return refuse(BELOW);
        }
        if (n > MOST_ADVANCE) {
            return refuse(ROOM);
        }
        int before = message.space();
        message.setSpace(n);
        return before;
    }

    public int pull(int n) {
        if (n < 1) {
            return refuse(BELOW);
        }
        if (n > MOST_PULL) {
            return refuse(ROOM);
        }
        int before = spring.load();
        spring.setLoad(n);
        return before;
    }

    public int wind(int n) {
        if (n < 0) {
            return refuse(BELOW);
        }
        if (n > MOST_WINDING) {
            return refuse(ROOM);
        }
        spring.tighten(n);
        return spring.power();
    }

    public int show() {
        if (!message.isWritable(cams)) {
            return refuse(STATE);
        }
        int before = spring.steps();
        paper.clear();
        shows++;
        if (perform()) {
            showsDone++;
        }
        return spring.steps() - before;
    }

    public int marked(int x, int y) {
        if (!Paper.hasPlace(x, y)) {
            return refuse(NOBODY);
        }
        return paper.isMarked(x, y) ? 1 : 0;
    }

    public int first(int x, int y, int what) {
        if (!Paper.hasPlace(x, y)) {
            return refuse(NOBODY);
        }
        if (what != 0 && what != 1) {
            return refuse(OTHER);
        }
        if (!paper.isMarked(x, y)) {
            return NONE;
        }
        return what == 0 ? paper.pegThatMarked(x, y) : paper.stepThatMarked(x, y);
    }

    public int marks() {
        return paper.size();
    }

    public int see(int x, int y, boolean on) {
        if (!Paper.hasPlace(x, y)) {
            return refuse(NOBODY);
        }
        if (paper.isMarked(x, y) == on) {
            return 0;
        }
        if (on) {
            paper.put(x, y, Paper.TOLD, Paper.TOLD);
        } else {
            paper.wipe(x, y);
        }
        return 1;
    }

    public int fault(int kind, int a) {
        if (kind < WORN || kind > BENT) {
            return refuse(OTHER);
        }
        if (a < 0 || a >= message.partsOfKind(kind)) {
            return refuse(NOBODY);
        }
        faults.tell(kind, a);
        return 1;
    }

    public int mend() {
        int before = faults.size();
        faults.clear();
        return before;
    }

    public int explained(int what) {
        if (what != 0 && what != 1) {
            return refuse(OTHER);
        }
        if (!message.isWritable(cams)) {
            return refuse(STATE);
        }
        guess.search(paper);
        return what == 0 ? guess.kind() : guess.which();
    }

    public int made(int cam, int maker) {
        int refusal = refusalOfMaker(cam, maker);
        if (refusal != 0) {
            return refuse(refusal);
        }
        if (makers.total(maker) + cams.steps() > MOST_CUT) {
            return refuse(ROOM);
        }
        makers.learn(maker, cams, cam);
        return makers.total(maker);
    }

    public int like(int cam, int maker) {
        int refusal = refusalOfMaker(cam, maker);
        if (refusal != 0) {
            return refuse(refusal);
        }
        if (makers.total(maker) <= 0) {
            return refuse(STATE);
        }
        return makers.likeness(maker, cams, cam);
    }

    public int whose(int cam) {
        int refusal = refusalOfCam(cam);
        if (refusal != 0) {
            return refuse(refusal);
        }
        return makers.nearest(cams, cam);
    }

    public int count(int what) {
        switch (what) {
            case 0:
                return cams.steps();
            case 1:
                return cams.size();
            case 2:
                return message.pegs();
            case 3:
                return spring.power();
            case 4:
                return spring.wear();
            case 5:
                return spring.strain();
            case 6:
                return spring.ticks();
            case 7:
                return spring.steps();
            case 8:
                return shows;
            case 9:
                return showsDone;
            case 10:
                return faults.size();
            default:
                return refusalsTold(what - 11);
        }
    }

    private int refusalsTold(int at) {
        return at >= 0 && at < refusals.length ? refusals[at] : NONE;
    }

    private int refuse(int number) {
        int at = -1 - number;
        if (at >= 0 && at < refusals.length) {
            refusals[at]++;
        }
        return number;
    }

    private static boolean isCam(int cam) {
        return cam >= 0 && cam < CAMS;
    }

    private static boolean isLetter(int l) {
        return l >= 0 && l < LETTERS;
    }

    /** The refusal that is due for a CAM that must be there; 0 for none. */
    private int refusalOfCam(int cam) {
        if (!isCam(cam)) {
            return NOBODY;
        }
        return cams.isThere(cam) ? 0 : MISSING;
    }

    private int refusalOfStep(int cam, int step) {
        int refusal = refusalOfCam(cam);
        if (refusal != 0) {
            return refusal;
        }
        return step >= 0 && step < cams.steps() ? 0 : BEYOND;
    }

    /** NOBODY of either comes ahead of MISSING, so the MAKER is looked at first. */
    private int refusalOfMaker(int cam, int maker) {
        if (maker < 0 || maker >= MAKERS) {
            return NOBODY;
        }
        return refusalOfCam(cam);
    }

    /** Writes until the MESSAGE is done (true) or the SPRING gives out (false). */
    private boolean perform() {
        for (int peg = 0; peg < message.pegs(); peg++) {
            if (faults.isLoose(peg)) {
                continue;
            }
            for (int step = 0; step < cams.steps(); step++) {
                if (!spring.makeStep()) {
                    return false;
                }
                hand.writeStep(faults, paper, peg, step);
            }
        }
        return true;
    }

    /** The CAMS: which are there, their heights, and which are one another turned. */
    private static final class Cams {
        private final int[][] rows = new int[CAMS][MOST_LENGTH];
        private final boolean[] there = new boolean[CAMS];
        private final int[] spare = new int[MOST_LENGTH];
        private int steps = 8;

        int steps() {
            return steps;
        }

        int size() {
            int n = 0;
            for (int cam = 0; cam < CAMS; cam++) {
                if (there[cam]) {
                    n++;
                }
            }
            return n;
        }

        boolean isThere(int cam) {
            return there[cam];
        }

        void startAnew(int newSteps) {
            steps = newSteps;
            for (int cam = 0; cam < CAMS; cam++) {
                there[cam] = false;
            }
        }

        void makeFlat(int cam) {
            there[cam] = true;
            Arrays.fill(rows[cam], 0);
        }

        void remove(int cam) {
            there[cam] = false;
        }

        int heightAt(int cam, int step) {
            return rows[cam][step];
        }

        void setHeight(int cam, int step, int v) {
            rows[cam][step] = v;
        }

        /** Written without a sum of the two, which might wrap around. */
        boolean hasSpan(int from, int n) {
            return n >= 0 && n <= steps && from >= 0 && from <= steps - n;
        }

        void copySpan(int a, int i, int b, int j, int n) {
            System.arraycopy(rows[a], i, rows[b], j, n);
        }

        void rotate(int cam, int n) {
            int[] row = rows[cam];
            System.arraycopy(row, 0, spare, 0, steps);
            for (int step = 0; step < steps; step++) {
                row[further(step, n)] = spare[step];
            }
        }

        /** How many BLANKS have their least CAM below the given one. */
        int blanksBelow(int end) {
            int n = 0;
            for (int cam = 0; cam < end; cam++) {
                if (there[cam] && leastAlike(cam) == cam) {
                    n++;
                }
            }
            return n;
        }

        /** The least CAM that is ONE with the given one, which is there. */
        int leastAlike(int cam) {
            for (int other = 0; other < cam; other++) {
                if (there[other] && stepsBetween(other, cam) >= 0) {
                    return other;
                }
            }
            return cam;
        }

        /** The least number of steps that turns the one into the other; NONE if none does. */
        int stepsBetween(int from, int to) {
            for (int n = 0; n < steps; n++) {
                if (isTurnedBy(rows[from], rows[to], n)) {
                    return n;
                }
            }
            return NONE;
        }

        private boolean isTurnedBy(int[] from, int[] to, int n) {
            for (int step = 0; step < steps; step++) {
                if (to[further(step, n)] != from[step]) {
                    return false;
                }
            }
            return true;
        }

        int greatestStep(int cam) {
            int greatest = 0;
            for (int step = 0; step < steps; step++) {
                int difference = rows[cam][further(step, 1)] - rows[cam][step];
                greatest = Math.max(greatest, Math.abs(difference));
            }
            return greatest;
        }

        /** A step so many steps on, round; both are below LENGTH. */
        private int further(int step, int n) {
            int sum = step + n;
            return sum < steps ? sum : sum - steps;
        }
    }

    /** The LETTERS with their CAMS, the PEGS, and how far a PEG is from the next. */
    private static final class Message {
        private final int[] across = new int[LETTERS];
        private final int[] up = new int[LETTERS];
        private final int[] lift = new int[LETTERS];
        private final int[] letters = new int[MOST_PEGS];
        private int pegs = 0;
        private int space = 5;

        int pegs() {
            return pegs;
        }

        int space() {
            return space;
        }

        void setSpace(int n) {
            space = n;
        }

        void setCams(int l, int newAcross, int newUp, int newLift) {
            across[l] = newAcross;
            up[l] = newUp;
            lift[l] = newLift;
        }

        void addPeg(int l) {
            letters[pegs] = l;
            pegs++;
        }

        void dropPeg() {
            pegs--;
        }

        int acrossOfPeg(int peg) {
            return across[letters[peg]];
        }

        int upOfPeg(int peg) {
            return up[letters[peg]];
        }

        int liftOfPeg(int peg) {
            return lift[letters[peg]];
        }

        boolean hasAllCams(int l, Cams cams) {
            return cams.isThere(across[l]) && cams.isThere(up[l]) && cams.isThere(lift[l]);
        }

        /** A LOOSE PEG's LETTER must be CUT, too: the document excepts none. */
        boolean isWritable(Cams cams) {
            for (int peg = 0; peg < pegs; peg++) {
                if (!hasAllCams(letters[peg], cams)) {
                    return false;
                }
            }
            return true;
        }

        /** How many parts may have a FAULT of that KIND. */
        int partsOfKind(int kind) {
            switch (kind) {
                case WORN:
                    return CAMS;
                case LOOSE:
                    return pegs;
                case BENT:
                    return LEVERS;
                default:
                    return 0;
            }
        }
    }

    /** The SPRING: what is in it, what a step takes, and what was made by it. */
    private static final class Spring {
        private static final int MOST_POWER = 1000;
        private static final int MOST_WEAR = 20;
        private static final int STEPS_TO_WEAR = 100;

        private int power = 0;
        private int load = 2;
        private int strain = 0;
        private int ticks = 0;
        private int steps = 0;

        int power() {
            return power;
        }

        int load() {
            return load;
        }

        void setLoad(int n) {
            load = n;
        }

        int strain() {
            return strain;
        }

        int ticks() {
            return ticks;
        }

        int steps() {
            return steps;
        }

        int wear() {
            return Math.min(MOST_WEAR, steps / STEPS_TO_WEAR);
        }

        void tighten(int n) {
            power += n;
            if (power > MOST_POWER) {
                power = MOST_POWER;
                strain++;
            }
        }

        /** False if too little is left: then nothing was made and nothing was taken. */
        boolean makeStep() {
            int need = load + wear();
            if (power < need) {
                return false;
            }
            ticks += ticksOfStep();
            power -= need;
            steps++;
            return true;
        }

        private int ticksOfStep() {
            if (power >= 500) {
                return 1;
            }
            return power >= 200 ? 2 : 4;
        }
    }

    /** CELLS that are marked, a bit each, so that two PAPERS are compared in few steps. */
    private static final class Paper {
        static final int TOLD = 99;

        private static final int WIDTH = 120;
        private static final int HEIGHT = 10;
        private static final int WORDS = 19;
        private static final int STEP_CODES = 100;

        private final long[] words = new long[WORDS];
        private final int[] firsts;

        /** A PAPER on trial is only compared: it saves the room for what marked its CELLS. */
        Paper(boolean keepsFirsts) {
            firsts = new int[keepsFirsts ? WIDTH * HEIGHT : 0];
        }

        static boolean hasPlace(int x, int y) {
            return x >= 0 && x < WIDTH && y >= 0 && y < HEIGHT;
        }

        void clear() {
            Arrays.fill(words, 0L);
        }

        boolean isMarked(int x, int y) {
            int cell = y * WIDTH + x;
            return (words[cell >> 6] >>> (cell & 63) & 1L) != 0L;
        }

        /** What marked a CELL first is kept when it is marked again. */
        void put(int x, int y, int peg, int step) {
            if (!hasPlace(x, y) || isMarked(x, y)) {
                return;
            }
            int cell = y * WIDTH + x;
            words[cell >> 6] |= 1L << (cell & 63);
            if (cell < firsts.length) {
                firsts[cell] = peg * STEP_CODES + step;
            }
        }

        void wipe(int x, int y) {
            int cell = y * WIDTH + x;
            words[cell >> 6] &= ~(1L << (cell & 63));
        }

        int pegThatMarked(int x, int y) {
            return firstCode(x, y) / STEP_CODES;
        }

        int stepThatMarked(int x, int y) {
            return firstCode(x, y) % STEP_CODES;
        }

        private int firstCode(int x, int y) {
            int cell = y * WIDTH + x;
            return cell < firsts.length ? firsts[cell] : 0;
        }

        int size() {
            int n = 0;
            for (int i = 0; i < WORDS; i++) {
                n += Long.bitCount(words[i]);
            }
            return n;
        }

        boolean isWithin(Paper other) {
            for (int i = 0; i < WORDS; i++) {
                if ((words[i] & ~other.words[i]) != 0L) {
                    return false;
                }
            }
            return true;
        }
    }

    /** At most one FAULT of each KIND. */
    private static final class Faults {
        private static final int NO_PART = -1;
        private static final int LEVER_X = 0;
        private static final int LEVER_Y = 1;

        private int worn = NO_PART;
        private int loose = NO_PART;
        private int bent = NO_PART;

        void clear() {
            worn = NO_PART;
            loose = NO_PART;
            bent = NO_PART;
        }

        void tell(int kind, int part) {
            switch (kind) {
                case WORN:
                    worn = part;
                    break;
                case LOOSE:
                    loose = part;
                    break;
                case BENT:
                    bent = part;
                    break;
                default:
                    break;
            }
        }

        int size() {
            int n = worn == NO_PART ? 0 : 1;
            n += loose == NO_PART ? 0 : 1;
            n += bent == NO_PART ? 0 : 1;
            return n;
        }

        boolean isLoose(int peg) {
            return peg == loose;
        }

        int wornHeight(int cam, int height) {
            return cam == worn && height > 0 ? height - 1 : height;
        }

        int bentX(int x) {
            return bent == LEVER_X ? x + 1 : x;
        }

        int bentY(int y) {
            return bent == LEVER_Y ? Math.min(MOST_HEIGHT, y + 1) : y;
        }
    }

    /** The boy's hand: what one step marks. */
    private static final class Hand {
        private final Cams cams;
        private final Message message;

        Hand(Cams cams, Message message) {
            this.cams = cams;
            this.message = message;
        }

        void writeStep(Faults faults, Paper paper, int peg, int step) {
            if (!isDown(faults, peg, step)) {
                return;
            }
            int x = xAt(faults, peg, step);
            int y = yAt(faults, peg, step);
            paper.put(x, y, peg, step);
            if (step > 0 && isDown(faults, peg, step - 1)) {
                int fromX = xAt(faults, peg, step - 1);
                int fromY = yAt(faults, peg, step - 1);
                drawLine(paper, fromX, fromY, x - fromX, y - fromY, peg, step);
            }
        }

        private boolean isDown(Faults faults, int peg, int step) {
            return heightOf(faults, message.liftOfPeg(peg), step) == 0;
        }

        private int xAt(Faults faults, int peg, int step) {
            int height = heightOf(faults, message.acrossOfPeg(peg), step);
            return faults.bentX(peg * message.space() + height);
        }

        private int yAt(Faults faults, int peg, int step) {
            return faults.bentY(heightOf(faults, message.upOfPeg(peg), step));
        }

        private int heightOf(Faults faults, int cam, int step) {
            return faults.wornHeight(cam, cams.heightAt(cam, step));
        }

        /** Marks what lies between two steps; the ends are marked by the steps themselves. */
        private static void drawLine(Paper paper, int x, int y, int dx, int dy, int peg, int step) {
            int m = Math.max(Math.abs(dx), Math.abs(dy));
            for (int i = 1; i < m; i++) {
                paper.put(x + rounded(i * dx, m), y + rounded(i * dy, m), peg, step);
            }
        }

        private static int rounded(int amount, int m) {
            return m > 0 ? Math.floorDiv(2 * amount + m, 2 * m) : 0;
        }
    }

    /** Finds the one FAULT by which a PAPER is as the MESSAGE would be written. */
    private static final class Guess {
        private final Hand hand;
        private final Cams cams;
        private final Message message;
        private final Faults supposed = new Faults();
        private final Paper trial = new Paper(false);
        private int kind = NONE;
        private int which = NONE;

        Guess(Hand hand, Cams cams, Message message) {
            this.hand = hand;
            this.cams = cams;
            this.message = message;
        }

        int kind() {
            return kind;
        }

        int which() {
            return which;
        }

        void search(Paper paper) {
            kind = NO_FAULT;
            which = NONE;
            if (fits(paper, NO_FAULT, 0)) {
                return;
            }
            for (int k = WORN; k <= BENT; k++) {
                int parts = message.partsOfKind(k);
                for (int part = 0; part < parts; part++) {
                    if (fits(paper, k, part)) {
                        kind = k;
                        which = part;
                        return;
                    }
                }
            }
            kind = NONE;
        }

        /** Leaves off at the first PEG that marks what the PAPER has not, to save steps. */
        private boolean fits(Paper paper, int supposedKind, int part) {
            supposed.clear();
            supposed.tell(supposedKind, part);
            trial.clear();
            for (int peg = 0; peg < message.pegs(); peg++) {
                if (supposed.isLoose(peg)) {
                    continue;
                }
                for (int step = 0; step < cams.steps(); step++) {
                    hand.writeStep(supposed, trial, peg, step);
                }
                if (!trial.isWithin(paper)) {
                    return false;
                }
            }
            return paper.isWithin(trial);
        }
    }

    /** The MAKERS' HABITS. */
    private static final class Makers {
        private static final int HEIGHTS = MOST_HEIGHT + 1;

        private final int[][] habits = new int[MAKERS][HEIGHTS];
        private final int[] totals = new int[MAKERS];
        private final int[] times = new int[HEIGHTS];

        int total(int maker) {
            return totals[maker];
        }

        void learn(int maker, Cams cams, int cam) {
            tally(cams, cam);
            for (int h = 0; h < HEIGHTS; h++) {
                habits[maker][h] += times[h];
            }
            totals[maker] += cams.steps();
        }

        int likeness(int maker, Cams cams, int cam) {
            tally(cams, cam);
            int sum = 0;
            for (int h = 0; h < HEIGHTS; h++) {
                sum += Math.abs(times[h] * totals[maker] - habits[maker][h] * cams.steps());
            }
            return sum;
        }

        /** Compares fractions by their cross products, which stay below 32 million or so. */
        int nearest(Cams cams, int cam) {
            int best = NONE;
            int bestLikeness = 0;
            int bestTotal = 1;
            for (int maker = 0; maker < MAKERS; maker++) {
                if (totals[maker] <= 0) {
                    continue;
                }
                int likeness = likeness(maker, cams, cam);
                if (best == NONE || likeness * bestTotal < bestLikeness * totals[maker]) {
                    best = maker;
                    bestLikeness = likeness;
                    bestTotal = totals[maker];
                }
            }
            return best;
        }

        private void tally(Cams cams, int cam) {
            Arrays.fill(times, 0);
            for (int step = 0; step < cams.steps(); step++) {
                int h = cams.heightAt(cam, step);
                if (h >= 0 && h < HEIGHTS) {
                    times[h]++;
                }
            }
        }
    }
}
