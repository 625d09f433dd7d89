import java.math.BigInteger;
import java.util.ArrayList;
import java.util.Collections;
import java.util.HashMap;
import java.util.HashSet;
import java.util.List;
import java.util.Map;
import java.util.Set;
import java.util.TreeMap;

/**
 * The document once more, by the plainest means of the Java library and with no thought of speed: what
 * the class answers in runs at random is held against it. Calls are told by their names.
 */
final class PlainFigures {
    private int length = 8;
    private final Map<Integer, List<Integer>> cams = new TreeMap<>();
    private final int[][] letters = new int[10][3];
    private final List<Integer> pegs = new ArrayList<>();
    private int advance = 5;
    private int power = 0;
    private int pull = 2;
    private int strain = 0;
    private int ticks = 0;
    private int steps = 0;
    private int shows = 0;
    private int done = 0;
    private Map<List<Integer>, int[]> paper = new HashMap<>();
    private final Map<Integer, Integer> faults = new HashMap<>();
    private final Map<Integer, List<Integer>> cutBy = new TreeMap<>();
    private final int[] refusals = new int[8];

    int call(String name, int... a) {
        int answer = answer(name, a);
        boolean refused = answer <= -1 && answer >= -7;
        if (refused) {
            refusals[-answer]++;
        }
        return answer;
    }

    private int answer(String name, int[] a) {
        switch (name) {
            case "length": case "advance": case "pull": case "wind":
                return number(name, a[0]);
            case "blank": case "lose": case "cutAt": case "height": case "turn": case "camOf":
                return cam(name, a);
            case "copy":
                return copy(a);
            case "blanks":
                return leastCams().size();
            case "letter": case "isCut": case "peg": case "unpeg":
                return message(name, a);
            case "marked": case "first": case "see":
                return cell(name, a);
            case "made": case "like": case "whose":
                return maker(name, a);
            case "show":
                return isWritable() ? show() : -3;
            case "marks":
                return paper.size();
            case "fault":
                return fault(a[0], a[1]);
            case "mend":
                int told = faults.size();
                faults.clear();
                return told;
            case "explained":
                return a[0] < 0 || a[0] > 1 ? -2 : !isWritable() ? -3 : explanation()[a[0]];
            default:
                return count(a[0]);
        }
    }

    private static boolean in(int v, int least, int most) {
        return v >= least && v <= most;
    }

    private int number(String name, int n) {
        Map<String, int[]> limits = Map.of("length", new int[] {2, 16}, "advance", new int[] {0, 9},
            "pull", new int[] {1, 20}, "wind", new int[] {0, 5000});
        int[] limit = limits.get(name);
        if (n < limit[0]) {
            return -4;
        }
        if (n > limit[1]) {
            return -6;
        }
        int before;
        switch (name) {
            case "length":
                before = length;
                length = n;
                cams.clear();
                paper.clear();
                return before;
            case "advance":
                before = advance;
                advance = n;
                return before;
            case "pull":
                before = pull;
                pull = n;
                return before;
            default:
                strain += power + n > 1000 ? 1 : 0;
                power = Math.min(1000, power + n);
                return power;
        }
    }

    private int cam(String name, int[] a) {
        int cam = a[0];
        if (!in(cam, 0, 11)) {
            return -1;
        }
        if (name.equals("blank")) {
            return cams.put(cam, new ArrayList<>(Collections.nCopies(length, 0))) == null ? 1 : 0;
        }
        if (!cams.containsKey(cam)) {
            return -5;
        }
        List<Integer> row = cams.get(cam);
        switch (name) {
            case "lose":
                cams.remove(cam);
                return 1;
            case "camOf":
                return camOf(cam, row, a[1]);
            default:
                break;
        }
        if (!in(a[1], 0, length - 1)) {
            return -7;
        }
        switch (name) {
            case "height":
                return row.get(a[1]);
            case "turn":
                Collections.rotate(row, a[1]);
                return 1;
            default:
                return a[2] < 0 ? -4 : a[2] > 9 ? -6 : row.set(a[1], a[2]);
        }
    }

    private int copy(int[] a) {
        if (!in(a[0], 0, 11) || !in(a[2], 0, 11)) {
            return -1;
        }
        if (!cams.containsKey(a[0]) || !cams.containsKey(a[2])) {
            return -5;
        }
        if (a[4] < 0 || a[1] < 0 || a[3] < 0 || (long) a[1] + a[4] > length || (long) a[3] + a[4] > length) {
            return -7;
        }
        List<Integer> heights = new ArrayList<>(cams.get(a[0]).subList(a[1], a[1] + a[4]));
        for (int i = 0; i < a[4]; i++) {
            cams.get(a[2]).set(a[3] + i, heights.get(i));
        }
        return a[4];
    }

    /** Rows that are one another turned have the same least turn. */
    private static String leastTurn(List<Integer> row) {
        String least = null;
        for (int n = 0; n < row.size(); n++) {
            List<Integer> turned = new ArrayList<>(row);
            Collections.rotate(turned, n);
            if (least == null || turned.toString().compareTo(least) < 0) {
                least = turned.toString();
            }
        }
        return least;
    }

    /** The least CAM of each BLANK, in the BLANKS' order. */
    private List<Integer> leastCams() {
        Set<String> seen = new HashSet<>();
        List<Integer> least = new ArrayList<>();
        for (Map.Entry<Integer, List<Integer>> cam : cams.entrySet()) {
            if (seen.add(leastTurn(cam.getValue()))) {
                least.add(cam.getKey());
            }
        }
        return least;
    }

    private int camOf(int cam, List<Integer> row, int what) {
        if (what == 2) {
            int most = 0;
            for (int i = 0; i < length; i++) {
                most = Math.max(most, Math.abs(row.get(i) - row.get((i + length - 1) % length)));
            }
            return most;
        }
        if (what != 0 && what != 1) {
            return -2;
        }
        List<Integer> leastCams = leastCams();
        for (int blank = 0; blank < leastCams.size(); blank++) {
            List<Integer> least = new ArrayList<>(cams.get(leastCams.get(blank)));
            for (int n = 0; n < length; n++) {
                if (least.equals(row)) {
                    return what == 0 ? blank : n;
                }
                Collections.rotate(least, 1);
            }
        }
        return -99;
    }

    private boolean isCutLetter(int l) {
        return cams.containsKey(letters[l][0]) && cams.containsKey(letters[l][1]) && cams.containsKey(letters[l][2]);
    }

    private boolean isWritable() {
        return pegs.stream().allMatch(this::isCutLetter);
    }

    private int message(String name, int[] a) {
        if (name.equals("unpeg")) {
            if (pegs.isEmpty()) {
                return -3;
            }
            pegs.remove(pegs.size() - 1);
            return pegs.size();
        }
        if (!in(a[0], 0, 9)) {
            return -1;
        }
        switch (name) {
            case "letter":
                if (!in(a[1], 0, 11) || !in(a[2], 0, 11) || !in(a[3], 0, 11)) {
                    return -1;
                }
                letters[a[0]] = new int[] {a[1], a[2], a[3]};
                return 1;
            case "isCut":
                return isCutLetter(a[0]) ? 1 : 0;
            default:
                if (pegs.size() == 12) {
                    return -6;
                }
                pegs.add(a[0]);
                return pegs.size();
        }
    }

    /** X, Y and LIFT at each step of each PEG that is written, with the PEG and the step. */
    private List<int[]> path(Map<Integer, Integer> by) {
        List<int[]> path = new ArrayList<>();
        for (int k = 0; k < pegs.size(); k++) {
            if (by.getOrDefault(2, -1) == k) {
                continue;
            }
            for (int t = 0; t < length; t++) {
                int[] at = new int[3];
                for (int i = 0; i < 3; i++) {
                    int cam = letters[pegs.get(k)][i];
                    at[i] = cams.get(cam).get(t);
                    at[i] = by.getOrDefault(1, -1) == cam ? Math.max(0, at[i] - 1) : at[i];
                }
                int lever = by.getOrDefault(3, -1);
                int x = k * advance + at[0] + (lever == 0 ? 1 : 0);
                int y = Math.min(9, at[1] + (lever == 1 ? 1 : 0));
                path.add(new int[] {x, y, at[2], k, t});
            }
        }
        return path;
    }

    private static int atLine(int from, int to, int i, int m) {
        return (int) Math.floor(from + (double) i * (to - from) / m + 0.5 + 1e-9);
    }

    private static void mark(Map<List<Integer>, int[]> on, int[] before, int[] now) {
        if (now[2] != 0) {
            return;
        }
        on.putIfAbsent(List.of(now[0], now[1]), new int[] {now[3], now[4]});
        if (before == null || before[2] != 0 || before[3] != now[3]) {
            return;
        }
        int m = Math.max(Math.abs(before[0] - now[0]), Math.abs(before[1] - now[1]));
        for (int i = 1; i < m; i++) {
            List<Integer> cell = List.of(atLine(before[0], now[0], i, m), atLine(before[1], now[1], i, m));
            on.putIfAbsent(cell, new int[] {now[3], now[4]});
        }
    }

    private int show() {
        paper = new HashMap<>();
        shows++;
        int made = 0;
        int[] before = null;
        for (int[] now : path(faults)) {
            int need = pull + Math.min(20, steps / 100);
            if (power < need) {
                return made;
            }
            ticks += power >= 500 ? 1 : power >= 200 ? 2 : 4;
            power -= need;
            steps++;
            made++;
            mark(paper, before, now);
            before = now;
        }
        done++;
        return made;
    }

    private Set<List<Integer>> written(Map<Integer, Integer> by) {
        Map<List<Integer>, int[]> on = new HashMap<>();
        int[] before = null;
        for (int[] now : path(by)) {
            mark(on, before, now);
            before = now;
        }
        return on.keySet();
    }

    private int[] explanation() {
        if (written(Map.of()).equals(paper.keySet())) {
            return new int[] {0, -9};
        }
        int[] parts = {0, 12, pegs.size(), 2};
        for (int kind = 1; kind <= 3; kind++) {
            for (int part = 0; part < parts[kind]; part++) {
                if (written(Map.of(kind, part)).equals(paper.keySet())) {
                    return new int[] {kind, part};
                }
            }
        }
        return new int[] {-9, -9};
    }

    private int cell(String name, int[] a) {
        if (!in(a[0], 0, 119) || !in(a[1], 0, 9)) {
            return -1;
        }
        List<Integer> cell = List.of(a[0], a[1]);
        boolean was = paper.containsKey(cell);
        switch (name) {
            case "marked":
                return was ? 1 : 0;
            case "first":
                return !in(a[2], 0, 1) ? -2 : was ? paper.get(cell)[a[2]] : -9;
            default:
                if (was == (a[2] == 1)) {
                    return 0;
                }
                if (was) {
                    paper.remove(cell);
                } else {
                    paper.put(cell, new int[] {99, 99});
                }
                return 1;
        }
    }

    private int fault(int kind, int a) {
        if (!in(kind, 1, 3)) {
            return -2;
        }
        int[] parts = {0, 12, pegs.size(), 2};
        if (!in(a, 0, parts[kind] - 1)) {
            return -1;
        }
        faults.put(kind, a);
        return 1;
    }

    private int likeness(int cam, int maker) {
        List<Integer> all = cutBy.get(maker);
        int sum = 0;
        for (int h = 0; h <= 9; h++) {
            int inCam = Collections.frequency(cams.get(cam), h);
            sum += Math.abs(inCam * all.size() - Collections.frequency(all, h) * length);
        }
        return sum;
    }

    private int maker(String name, int[] a) {
        boolean whose = name.equals("whose");
        if (!in(a[0], 0, 11) || !whose && !in(a[1], 0, 3)) {
            return -1;
        }
        if (!cams.containsKey(a[0])) {
            return -5;
        }
        if (whose) {
            return nearest(a[0]);
        }
        if (name.equals("like")) {
            return cutBy.containsKey(a[1]) ? likeness(a[0], a[1]) : -3;
        }
        int before = cutBy.containsKey(a[1]) ? cutBy.get(a[1]).size() : 0;
        if (before + length > 1000) {
            return -6;
        }
        cutBy.computeIfAbsent(a[1], m -> new ArrayList<>()).addAll(cams.get(a[0]));
        return cutBy.get(a[1]).size();
    }

    private int nearest(int cam) {
        int best = -9;
        for (int maker : cutBy.keySet()) {
            if (best < 0 || cross(cam, maker, best).compareTo(cross(cam, best, maker)) < 0) {
                best = maker;
            }
        }
        return best;
    }

    private BigInteger cross(int cam, int maker, int other) {
        return BigInteger.valueOf(likeness(cam, maker)).multiply(BigInteger.valueOf(cutBy.get(other).size()));
    }

    private int count(int what) {
        int[] all = {length, cams.size(), pegs.size(), power, Math.min(20, steps / 100), strain, ticks, steps,
            shows, done, faults.size(), refusals[1], refusals[2], refusals[3], refusals[4], refusals[5],
            refusals[6], refusals[7]};
        return in(what, 0, all.length - 1) ? all[what] : -9;
    }
}
