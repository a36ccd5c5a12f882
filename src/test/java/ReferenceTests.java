import java.math.BigInteger;
import java.util.ArrayList;
import java.util.Arrays;
import java.util.Collections;
import java.util.HashMap;
import java.util.List;
import java.util.Map;
import java.util.Random;
import java.util.TreeSet;

/**
 * Long runs of calls on BaizeCorps and on a second, slow model of the document, which shares no
 * code with it: rows and columns in place of cells, texts in place of pads, lists in place of bits.
 */
public final class ReferenceTests {
    private static int wrong = 0;
    private static int calls = 0;

    public static void main(String[] args) {
        everyAnswerOfPureCalls();
        manySeasons();
        for (int seed = 1; seed <= 1500; seed++) {
            runOfCalls(seed);
        }
        System.out.println(wrong == 0 ? "all answers are as due" : wrong + " answers are not as due");
        if (wrong != 0) {
            System.exit(1);
        }
    }

    private static void due(String call, long got, long want) {
        calls++;
        if (got != want) {
            wrong++;
            if (wrong <= 40) {
                System.out.println(call + " answered " + got + ", due is " + want);
            }
        }
    }

    private static BaizeCorps fresh;
    private static int callsLeft = 0;

    /** A new object as soon as the old one has been used for as many calls as are promised. */
    private static BaizeCorps unspent() {
        if (callsLeft == 0) {
            fresh = new BaizeCorps();
            callsLeft = 512;
        }
        callsLeft--;
        return fresh;
    }

    /** Calls whose answers hang on their arguments alone are few enough to ask them all. */
    private static void everyAnswerOfPureCalls() {
        Model model = new Model();
        for (int row = -1; row <= 1000; row++) {
            for (int miss = -1; miss <= 2; miss++) {
                for (int what = -1; what <= 2; what++) {
                    due("chalk(" + row + ", " + miss + ", " + what + ")",
                        unspent().chalk(row, miss, what), model.chalk(row, miss, what));
                }
            }
        }
        for (int from = -1; from <= 45; from++) {
            for (int to = -1; to <= 45; to++) {
                for (int what = -1; what <= 2; what++) {
                    due("strokes(" + from + ", " + to + ", " + what + ")",
                        unspent().strokes(from, to, what), model.strokes(from, to, what));
                }
            }
        }
        for (int n = 0; n <= 9; n++) {
            for (int t = -1; t <= 11; t++) {
                for (int a = -1; a <= n; a++) {
                    for (int b = -1; b <= n; b++) {
                        for (int k = 0; k < 4; k++) {
                            due("match(" + n + ", " + t + ", " + a + ", " + b + ", " + k / 2 + ", " + k % 2 + ")",
                                unspent().match(n, t, a, b, k / 2, k % 2), model.match(n, t, a, b, k / 2, k % 2));
                        }
                    }
                }
            }
        }
        for (int cell = -1; cell <= 45; cell++) {
            for (int way = -1; way <= 8; way++) {
                for (int n = 0; n <= 40; n++) {
                    due("alone(" + cell + ", " + way + ", " + n + ", 0)",
                        unspent().alone(cell, way, n, 0), model.alone(cell, way, n, 0));
                }
                for (int what = -1; what <= 3; what++) {
                    due("alone(" + cell + ", " + way + ", 99999, " + what + ")",
                        unspent().alone(cell, way, 99999, what), model.alone(cell, way, 99999, what));
                }
            }
        }
    }

    /** Seasons of each length, from where the three lie at first and from elsewhere. */
    private static void manySeasons() {
        for (int seed = -1; seed <= 10000; seed += seed < 3 || seed > 9996 ? 1 : 37) {
            BaizeCorps x = new BaizeCorps();
            Model model = new Model();
            if (seed % 2 == 0) {
                due("ball(0, 20)", x.ball(0, 20), model.ball(0, 20));
                due("ball(1, -1)", x.ball(1, -1), model.ball(1, -1));
                due("score(98, 99)", x.score(98, 99), model.score(98, 99));
            }
            for (int m = 0; m <= 100; m++) {
                for (int what = 0; what <= 2; what++) {
                    due("season(" + seed + ", " + m + ", " + what + ")",
                        x.season(seed, m, what), model.season(seed, m, what));
                }
            }
        }
    }

    private static void runOfCalls(int seed) {
        Random random = new Random(seed);
        BaizeCorps x = new BaizeCorps();
        Model model = new Model();
        // one lot is 16 calls at the most, and an object is good for 512
        calls = 0;
        for (int lot = 0; calls <= 512 - 16; lot++) {
            someCalls(seed, lot, random, x, model);
        }
    }

    private static int about(Random random, int least, int most) {
        if (random.nextInt(40) == 0) {
            int[] odd = {Integer.MIN_VALUE, Integer.MAX_VALUE, least - 1, most + 1, least - 2, most + 2};
            return odd[random.nextInt(odd.length)];
        }
        return least + random.nextInt(most - least + 1);
    }

    private static void someCalls(int seed, int lot, Random r, BaizeCorps x, Model m) {
        String at = "run " + seed + ", lot " + lot + ": ";
        switch (r.nextInt(24)) {
            case 0: case 1: {
                int ball = about(r, 0, 2);
                int cell = r.nextInt(4) == 0 ? about(r, -1, 44) : 1 + r.nextInt(43);
                due(at + "ball(" + ball + ", " + cell + ")", x.ball(ball, cell), m.ball(ball, cell));
                break;
            }
            case 2: {
                int points = about(r, 0, 99);
                int fouls = about(r, 0, 99);
                due(at + "score(" + points + ", " + fouls + ")", x.score(points, fouls), m.score(points, fouls));
                break;
            }
            case 3: case 4: case 5: case 6: case 7:
                sayAct(at, r, x, m);
                break;
            case 8:
                if (r.nextInt(3) == 0) {
                    due(at + "wipe()", x.wipe(), m.wipe());
                } else {
                    due(at + "fault()", x.fault(), m.fault());
                }
                break;
            case 9: {
                int what = about(r, 0, 2);
                due(at + "judge(" + what + ")", x.judge(what), m.judge(what));
                break;
            }
            case 10: {
                int ball = about(r, 0, 2);
                due(at + "behind(" + ball + ")", x.behind(ball), m.behind(ball));
                break;
            }
            case 11: {
                int what = about(r, 0, 3);
                due(at + "table(" + what + ")", x.table(what), m.table(what));
                break;
            }
            case 12: {
                int what = about(r, 0, 1);
                due(at + "candour(" + what + ")", x.candour(what), m.candour(what));
                break;
            }
            case 13:
                due(at + "done()", x.done(), m.done());
                break;
            case 14: case 15: {
                int ball = about(r, 0, 2);
                int other = about(r, 0, 2);
                int c = r.nextInt(3) == 0 ? about(r, 0, 4) : r.nextInt(2);
                for (int what = 0; what < 3; what++) {
                    due(at + "hint(" + ball + ", " + other + ", " + c + ", " + what + ")",
                        x.hint(ball, other, c, what), m.hint(ball, other, c, what));
                }
                break;
            }
            case 16: case 17: {
                int step = about(r, 0, 60);
                int cell = r.nextInt(3) == 0 ? about(r, 0, 44) : m.likelySight(r, step);
                due(at + "seen(" + step + ", " + cell + ")", x.seen(step, cell), m.seen(step, cell));
                break;
            }
            case 18:
                if (r.nextInt(2) == 0) {
                    due(at + "forget()", x.forget(), m.forget());
                }
                break;
            case 19: {
                due(at + "sent(-1)", x.sent(-1), m.sent(-1));
                int i = r.nextInt(3) == 0 ? about(r, -3, 320) : r.nextInt(4);
                due(at + "sent(" + i + ")", x.sent(i), m.sent(i));
                break;
            }
            case 20: {
                int what = about(r, 0, 1);
                due(at + "ask(" + what + ")", x.ask(what), m.ask(what));
                break;
            }
            case 21: {
                int s = about(r, 0, 9999);
                int acts = about(r, 1, 99);
                int what = about(r, 0, 2);
                due(at + "season(" + s + ", " + acts + ", " + what + ")",
                    x.season(s, acts, what), m.season(s, acts, what));
                break;
            }
            case 22: {
                int k = about(r, 0, 1);
                if (r.nextInt(2) == 0) {
                    due(at + "image(" + k + ")", x.image(k), m.image(k));
                } else {
                    due(at + "restore(" + k + ")", x.restore(k), m.restore(k));
                }
                break;
            }
            default:
                for (int what = -1; what <= 14; what++) {
                    due(at + "told(" + what + ")", x.told(what), m.told(what));
                }
        }
    }

    /** Mostly an act that can be, for a text in which one can not be answers little. */
    private static void sayAct(String at, Random r, BaizeCorps x, Model m) {
        if ((m.fault() != -6 || m.judge(0) != -6) && r.nextInt(3) == 0) {
            due(at + "wipe()", x.wipe(), m.wipe());
        }
        StringBuilder text = new StringBuilder();
        int lot = r.nextInt(60);
        if (lot == 0) {
            text.append((char) about(r, 33, 126));
        } else if (lot < 8) {
            text.append('~');
        } else if (lot < 14) {
            text.append('.');
        } else {
            int ball = r.nextInt(3);
            boolean down = m.behind(ball) == -6;
            text.append((char) ('A' + ball));
            if (r.nextInt(20) == 0 ? !down : down) {
                text.append('^');
            } else {
                text.append((char) ('0' + r.nextInt(8)));
                text.append((char) ('1' + r.nextInt(9)));
            }
        }
        for (int i = 0; i < text.length(); i++) {
            int sign = text.charAt(i);
            due(at + "say(" + sign + ")", x.say(sign), m.say(sign));
        }
    }

    /** The document, told once more. */
    private static final class Model {
        private static final int[][] STEPS =
            {{-1, 0}, {-1, 1}, {0, 1}, {1, 1}, {1, 0}, {1, -1}, {0, -1}, {-1, -1}};
        private static final List<Integer> POCKETS = Arrays.asList(0, 4, 8, 36, 40, 44);
        private static final Map<String, Boolean> CHALK = new HashMap<>();

        /** What an image keeps; a ball that is down has no cell in the map. */
        private static final class Standing {
            final Map<Integer, Integer> lies = new HashMap<>();
            int points;
            int fouls;
            int evening;
            final List<int[]> sights = new ArrayList<>();

            Standing twin() {
                Standing twin = new Standing();
                twin.lies.putAll(lies);
                twin.points = points;
                twin.fouls = fouls;
                twin.evening = evening;
                twin.sights.addAll(sights);
                return twin;
            }

            Integer ballOn(int cell) {
                for (Map.Entry<Integer, Integer> lie : lies.entrySet()) {
                    if (lie.getValue() == cell) {
                        return lie.getKey();
                    }
                }
                return null;
            }
        }

        private Standing now = new Standing();
        private final Standing[] images = new Standing[2];
        private String pad = "";

        // what the last text came to
        private Standing then;
        private int badAct;
        private int why;
        private int touches;
        private int cushions;
        private int candour;
        private int acts;

        Model() {
            now.lies.put(0, 10);
            now.lies.put(1, 16);
            now.lies.put(2, 24);
        }

        private static boolean place(int cell) {
            return cell >= 0 && cell < 45 && !POCKETS.contains(cell);
        }

        int ball(int ball, int cell) {
            if (ball < 0 || ball > 2 || cell != -1 && !place(cell)) {
                return -1;
            }
            Integer other = now.ballOn(cell);
            if (other != null && other != ball) {
                return -3;
            }
            Integer before = cell == -1 ? now.lies.remove(ball) : now.lies.put(ball, cell);
            return before == null ? -6 : before;
        }

        int score(int points, int fouls) {
            if (points < 0 || points > 99 || fouls < 0 || fouls > 99) {
                return -2;
            }
            int before = 100 * now.points + now.fouls;
            now.points = points;
            now.fouls = fouls;
            return before;
        }

        int say(int sign) {
            if (sign < 33 || sign > 126) {
                return -2;
            }
            if (pad.length() == 60) {
                return -4;
            }
            pad += (char) sign;
            return pad.length();
        }

        int wipe() {
            int before = pad.length();
            pad = "";
            return before;
        }

        /** The first sign behind which no text of acts can begin so. */
        int fault() {
            String act = "([ABC]([0-7][1-9]|\\^)|~|\\.)";
            if (pad.matches(act + "*")) {
                return -6;
            }
            for (int length = 1; length <= pad.length(); length++) {
                if (!pad.substring(0, length).matches(act + "*([ABC][0-7]?)?")) {
                    return length - 1;
                }
            }
            return pad.length();
        }

        private int run() {
            if (fault() != -6) {
                return -5;
            }
            then = now.twin();
            badAct = -6;
            why = -6;
            touches = 0;
            cushions = 0;
            candour = -6;
            acts = 0;
            String rest = pad;
            while (!rest.isEmpty()) {
                int fouls = then.fouls;
                int reason;
                char sign = rest.charAt(0);
                if (sign == '~') {
                    nap(then);
                    reason = 0;
                    rest = rest.substring(1);
                } else if (sign == '.') {
                    reason = evening(then);
                    rest = rest.substring(1);
                } else if (rest.charAt(1) == '^') {
                    reason = bringUp(then, sign - 'A');
                    rest = rest.substring(2);
                } else {
                    reason = stroke(then, sign - 'A', rest.charAt(1) - '0', rest.charAt(2) - '0');
                    rest = rest.substring(3);
                }
                if (reason != 0) {
                    badAct = acts;
                    why = reason;
                    return -3;
                }
                if (candour == -6 && then.fouls > fouls) {
                    candour = acts;
                }
                acts++;
            }
            return 0;
        }

        private int evening(Standing s) {
            if (s.evening == 99) {
                return 3;
            }
            s.evening++;
            return 0;
        }

        private int bringUp(Standing s, int ball) {
            if (s.lies.containsKey(ball)) {
                return 1;
            }
            int home = ball == 0 ? 10 : ball == 1 ? 16 : 24;
            if (s.lies.containsValue(home)) {
                return 2;
            }
            s.lies.put(ball, home);
            return 0;
        }

        private void nap(Standing s) {
            List<Integer> order = new ArrayList<>();
            for (int ball : s.lies.keySet()) {
                order.add(100 * (s.lies.get(ball) % 9) + ball);
            }
            Collections.sort(order);
            for (int item : order) {
                int ball = item % 100;
                int to = s.lies.get(ball) - 1;
                if (item >= 100 && place(to) && !s.lies.containsValue(to)) {
                    s.lies.put(ball, to);
                }
            }
        }

        private int firstTouched;
        private int firstAt;
        private int firstCushions;

        private int stroke(Standing s, int ball, int way, int force) {
            firstTouched = -1;
            if (!s.lies.containsKey(ball)) {
                return 1;
            }
            int dr = STEPS[way][0];
            int dc = STEPS[way][1];
            int touched = 0;
            int bumps = 0;
            int down = -1;
            int going = ball;
            int spent = 0;
            while (spent < force && down < 0) {
                int row = s.lies.get(going) / 9;
                int column = s.lies.get(going) % 9;
                boolean bump = false;
                if (row + dr < 0 || row + dr > 4) {
                    dr = -dr;
                    bump = true;
                }
                if (column + dc < 0 || column + dc > 8) {
                    dc = -dc;
                    bump = true;
                }
                bumps += bump ? 1 : 0;
                spent++;
                int to = 9 * (row + dr) + column + dc;
                Integer lying = s.ballOn(to);
                if (lying != null) {
                    if (touched == 0) {
                        firstTouched = lying;
                        firstAt = spent;
                        firstCushions = bumps;
                    }
                    touched++;
                    going = lying;
                } else if (POCKETS.contains(to)) {
                    s.lies.remove(going);
                    down = going;
                } else {
                    s.lies.put(going, to);
                }
            }
            if (touched >= 2) {
                s.points += 2;
            }
            if (down >= 0 && down != ball) {
                s.points += 3;
            }
            if (down == ball) {
                s.fouls++;
            }
            if (touched > 0 && firstCushions == 0) {
                s.fouls++;
            }
            touches += touched;
            cushions += bumps;
            return 0;
        }

        int judge(int what) {
            if (what < 0 || what > 2) {
                return -2;
            }
            int refusal = run();
            if (refusal == -5) {
                return -5;
            }
            if (what < 2) {
                return what == 0 ? badAct : why;
            }
            return refusal == -3 ? -3 : touches;
        }

        int behind(int ball) {
            if (ball < 0 || ball > 2) {
                return -1;
            }
            int refusal = run();
            return refusal != 0 ? refusal : then.lies.getOrDefault(ball, -6);
        }

        int table(int what) {
            if (what < 0 || what > 3) {
                return -2;
            }
            int refusal = run();
            if (refusal != 0) {
                return refusal;
            }
            return new int[] {then.points, then.fouls, 3 - then.lies.size(), then.evening}[what];
        }

        int candour(int what) {
            if (what < 0 || what > 1) {
                return -2;
            }
            int refusal = run();
            return refusal != 0 ? refusal : what == 0 ? candour : cushions;
        }

        int done() {
            int refusal = run();
            if (refusal != 0) {
                return refusal;
            }
            now = then.twin();
            pad = "";
            return acts;
        }

        int hint(int ball, int other, int c, int what) {
            if (ball < 0 || ball > 2 || other < 0 || other > 2 || ball == other) {
                return -1;
            }
            if (c < 0 || c > 4 || what < 0 || what > 1) {
                return -2;
            }
            for (int force = 1; force <= 9; force++) {
                for (int way = 0; way < 8; way++) {
                    stroke(now.twin(), ball, way, force);
                    if (firstTouched == other && firstAt == force && firstCushions == c) {
                        return what == 0 ? force : way;
                    }
                }
            }
            return -6;
        }

        /** Cell and way (by which it came) behind every number of steps up to the last. */
        private static List<Integer> path(int cell, int way, int last) {
            List<Integer> path = new ArrayList<>();
            int row = cell / 9;
            int column = cell % 9;
            int dr = STEPS[way][0];
            int dc = STEPS[way][1];
            for (int step = 0; step <= last; step++) {
                int by = 0;
                while (STEPS[by][0] != dr || STEPS[by][1] != dc) {
                    by++;
                }
                path.add(10 * (9 * row + column) + by);
                if (row + dr < 0 || row + dr > 4) {
                    dr = -dr;
                }
                if (column + dc < 0 || column + dc > 8) {
                    dc = -dc;
                }
                row += dr;
                column += dc;
            }
            return path;
        }

        int alone(int cell, int way, int n, int what) {
            if (!place(cell)) {
                return -1;
            }
            if (way < 0 || way > 7 || n < 0 || n > 99999 || what < 0 || what > 2) {
                return -2;
            }
            if (what == 0) {
                return path(cell, way, n).get(n) / 10;
            }
            List<Integer> path = path(cell, way, 400);
            if (what == 1) {
                for (int step = 1; step <= 400; step++) {
                    if (path.get(step) == 10 * cell + way) {
                        return step;
                    }
                }
                return -6;
            }
            TreeSet<Integer> ever = new TreeSet<>();
            for (int code : path) {
                ever.add(code / 10);
            }
            return ever.size();
        }

        private static final int[][] FEWEST = new int[45][];

        private static int endOf(int cell, int way, int force) {
            Standing s = new Standing();
            s.lies.put(0, cell);
            new Model().stroke(s, 0, way, force);
            return s.lies.getOrDefault(0, -1);
        }

        private static int fewest(int from, int to) {
            if (FEWEST[from] == null) {
                int[] fewest = new int[45];
                Arrays.fill(fewest, -6);
                fewest[from] = 0;
                List<Integer> queue = new ArrayList<>();
                queue.add(from);
                for (int head = 0; head < queue.size(); head++) {
                    int cell = queue.get(head);
                    for (int k = 0; k < 72; k++) {
                        int end = endOf(cell, k / 9, 1 + k % 9);
                        if (end >= 0 && fewest[end] == -6) {
                            fewest[end] = fewest[cell] + 1;
                            queue.add(end);
                        }
                    }
                }
                FEWEST[from] = fewest;
            }
            return FEWEST[from][to];
        }

        int strokes(int from, int to, int what) {
            if (!place(from) || !place(to)) {
                return -1;
            }
            if (what < 0 || what > 1) {
                return -2;
            }
            int count = fewest(from, to);
            if (what == 0 || count < 1) {
                return what == 0 ? count : -6;
            }
            for (int k = 0; k < 72; k++) {
                int end = endOf(from, k / 9, 1 + k % 9);
                if (end >= 0 && fewest(end, to) == count - 1) {
                    return k / 9;
                }
            }
            throw new IllegalStateException();
        }

        int seen(int step, int cell) {
            if (cell < 0 || cell > 44) {
                return -1;
            }
            if (step < 0 || step > 60) {
                return -2;
            }
            if (now.sights.size() == 8) {
                return -4;
            }
            now.sights.add(new int[] {step, cell});
            return now.sights.size();
        }

        int likelySight(Random random, int step) {
            List<Integer> fits = fits();
            if (fits.isEmpty() || step < 0 || step > 60) {
                return random.nextInt(45);
            }
            int code = fits.get(random.nextInt(fits.size()));
            return PATHS.get(code).get(step) / 10;
        }

        int forget() {
            int before = now.sights.size();
            now.sights.clear();
            return before;
        }

        private static final Map<Integer, List<Integer>> PATHS = new HashMap<>();

        private List<Integer> fits() {
            List<Integer> fits = new ArrayList<>();
            for (int code = 0; code < 450; code++) {
                if (code % 10 > 7 || !place(code / 10)) {
                    continue;
                }
                if (!PATHS.containsKey(code)) {
                    PATHS.put(code, path(code / 10, code % 10, 60));
                }
                boolean fit = true;
                for (int[] sight : now.sights) {
                    fit &= PATHS.get(code).get(sight[0]) / 10 == sight[1];
                }
                if (fit) {
                    fits.add(code);
                }
            }
            return fits;
        }

        int sent(int i) {
            List<Integer> fits = fits();
            if (i == -1) {
                return fits.size();
            }
            return i < 0 || i >= fits.size() ? -6 : fits.get(i);
        }

        int ask(int what) {
            if (what < 0 || what > 1) {
                return -2;
            }
            List<Integer> fits = fits();
            int best = -6;
            int bestMost = -6;
            for (int step = 60; step >= 0 && !fits.isEmpty(); step--) {
                int[] left = new int[45];
                int most = 0;
                for (int code : fits) {
                    most = Math.max(most, ++left[PATHS.get(code).get(step) / 10]);
                }
                if (best == -6 || most <= bestMost) {
                    best = step;
                    bestMost = most;
                }
            }
            return what == 0 ? best : bestMost;
        }

        /** Whether who is to take can win. */
        private static boolean wins(int a, int b, int c, int miss) {
            String key = a + "," + b + "," + c + "," + miss;
            if (!CHALK.containsKey(key)) {
                boolean wins = miss == 1 && a + b + c > 0 && !wins(a, b, c, 0);
                for (int k = 1; k <= 9; k++) {
                    wins |= k <= a && !wins(a - k, b, c, miss);
                    wins |= k <= b && !wins(a, b - k, c, miss);
                    wins |= k <= c && !wins(a, b, c - k, miss);
                }
                CHALK.put(key, wins);
            }
            return CHALK.get(key);
        }

        int chalk(int row, int miss, int what) {
            if (row < 0 || row > 999 || miss < 0 || miss > 1 || what < 0 || what > 1) {
                return -2;
            }
            int[] heaps = {row / 100, row / 10 % 10, row % 10};
            if (what == 0) {
                return wins(heaps[0], heaps[1], heaps[2], miss) ? 1 : 0;
            }
            for (int move = 1; move < 30; move++) {
                int[] left = heaps.clone();
                left[move / 10] -= move % 10;
                if (move % 10 > 0 && left[move / 10] >= 0 && !wins(left[0], left[1], left[2], miss)) {
                    return move;
                }
            }
            return miss == 1 && row > 0 && !wins(heaps[0], heaps[1], heaps[2], 0) ? 99 : -6;
        }

        private static final Map<String, BigInteger> MATCH = new HashMap<>();

        /** Times 10 to the 20: exact, for no match goes on for more than 15 games. */
        private static BigInteger standing(int mine, int theirs, int t, int what, BigInteger chance) {
            if (mine == 0 || theirs == 0) {
                return what == 0 && mine == 0 ? chance : BigInteger.ZERO;
            }
            String key = mine + "," + theirs + "," + t + "," + what + "," + chance;
            if (!MATCH.containsKey(key)) {
                BigInteger tenth = chance.divide(BigInteger.TEN);
                BigInteger sum = what == 1 ? chance : BigInteger.ZERO;
                sum = sum.add(standing(mine - 1, theirs, t, what, tenth).multiply(BigInteger.valueOf(t)));
                sum = sum.add(standing(mine, theirs - 1, t, what, tenth).multiply(BigInteger.valueOf(10 - t)));
                MATCH.put(key, sum);
            }
            return MATCH.get(key);
        }

        long match(int n, int t, int a, int b, int what, int part) {
            if (n < 1 || n > 8 || t < 0 || t > 10 || a < 0 || a >= n || b < 0 || b >= n
                || what < 0 || what > 1 || part < 0 || part > 1) {
                return -1000000000000000002L;
            }
            BigInteger whole = BigInteger.TEN.pow(20);
            BigInteger upper = standing(n - a, n - b, t, what, whole);
            BigInteger common = upper.gcd(whole);
            return (part == 0 ? upper : whole).divide(common).longValueExact();
        }

        int season(int seed, int m, int what) {
            if (seed < 0 || seed > 9999 || m < 1 || m > 99 || what < 0 || what > 2) {
                return -2;
            }
            Standing s = now.twin();
            long x = seed;
            for (int i = 0; i < m; i++) {
                x = (75 * x + 74) % 65537;
                int ball = (int) (x % 3);
                int kind = (int) (x / 3 % 8);
                int z = (int) (x / 24);
                if (kind == 7) {
                    evening(s);
                } else if (kind == 6) {
                    nap(s);
                } else if (kind == 5) {
                    bringUp(s, ball);
                } else {
                    stroke(s, ball, z % 8, z / 8 % 9 + 1);
                }
            }
            return what == 0 ? s.points : what == 1 ? s.fouls : 3 - s.lies.size();
        }

        int image(int k) {
            if (k < 0 || k > 1) {
                return -2;
            }
            images[k] = now.twin();
            return 1;
        }

        int restore(int k) {
            if (k < 0 || k > 1) {
                return -2;
            }
            if (images[k] == null) {
                return -3;
            }
            now = images[k].twin();
            return 1;
        }

        int told(int what) {
            switch (what) {
                case 0: return pad.length();
                case 1: return now.points;
                case 2: return now.fouls;
                case 3: return now.evening;
                case 4: return now.sights.size();
                default:
                    return what >= 10 && what <= 12 ? now.lies.getOrDefault(what - 10, -6) : -2;
            }
        }
    }
}
