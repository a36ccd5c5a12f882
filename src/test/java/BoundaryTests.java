/**
 * One test for each sentence of ../shared/DOC.md that names a boundary: the last number that is as
 * told and the first that is not, on either side, the least and the greatest int, empty and full,
 * two refusals that fit at once, and that a refused call changes nothing. The sentence stands with it.
 */
public final class BoundaryTests {
    private static final int UNKNOWN = -1, OUTSIDE = -2, STATE = -3, FULL = -4, NO = -5, NONE = -6;
    private static final long GONE = -1000000000000000000L;
    private static final int DOWN = -1;
    private static final int LEAST = Integer.MIN_VALUE, GREATEST = Integer.MAX_VALUE;
    private static final int[] POCKETS = {0, 4, 8, 36, 40, 44};
    private static final int SETTINGS = 7, FRESH = 0, FAULTY = 1, PLAIN = 2, CAN_NOT = 3, ALL_FULL = 4;

    /** One call on an object. */
    private interface Call {
        long on(BaizeCorps x);
    }

    /** One call on an object with one number that is tried. */
    private interface Tried {
        long on(BaizeCorps x, int number);
    }

    private interface Test {
        void run();
    }

    private static int wrong = 0;
    private static int tests = 0;
    private static String sentence = "";

    public static void main(String[] args) {
        terms();
        theTable();
        theStroke();
        crises();
        whatIsBehind();
        hintsAloneStrokes();
        sights();
        chalkAndMatches();
        seasonsAndImages();
        System.out.println(tests + " sentences: "
            + (wrong == 0 ? "all answers are as due" : wrong + " answers are not as due"));
        if (wrong != 0) {
            System.exit(1);
        }
    }

    private static void test(String told, Test test) {
        sentence = told;
        tests++;
        test.run();
    }

    private static void due(String call, long got, long want) {
        if (got != want) {
            wrong++;
            System.out.println(sentence + ": " + call + " answered " + got + ", due is " + want);
        }
    }

    // ---- objects to try calls on

    private static BaizeCorps lying(int a, int b, int c) {
        BaizeCorps x = new BaizeCorps();
        for (int ball = 0; ball < 3; ball++) {
            x.ball(ball, DOWN);
        }
        x.ball(0, a);
        x.ball(1, b);
        x.ball(2, c);
        return x;
    }

    private static BaizeCorps say(BaizeCorps x, String text) {
        for (int i = 0; i < text.length(); i++) {
            x.say(text.charAt(i));
        }
        return x;
    }

    private static BaizeCorps text(BaizeCorps x, String text) {
        x.wipe();
        return say(x, text);
    }

    private static BaizeCorps evening(int count) {
        BaizeCorps x = new BaizeCorps();
        say(x, ".".repeat(count / 2)).done();
        say(x, ".".repeat(count - count / 2)).done();
        return x;
    }

    /** Settings in which a call that is refused for its numbers is refused just so. */
    private static BaizeCorps setting(int which) {
        switch (which) {
            case FRESH:
                return new BaizeCorps();
            case FAULTY:
                return say(used(20, DOWN, 30), "A25B");
            case PLAIN:
                return say(used(20, 22, 24), "A25~.");
            case CAN_NOT:
                return say(used(20, 16, DOWN), ".B^A21");
            case ALL_FULL: {
                BaizeCorps x = say(used(11, 12, 13), "~".repeat(60));
                for (int k = 2; k < 8; k++) {
                    x.seen(60, 44);
                }
                return x;
            }
            case 5:
                return used(DOWN, DOWN, DOWN);
            default: {
                BaizeCorps x = evening(99);
                x.image(1);
                x.seen(0, 0);
                return say(x, ".");
            }
        }
    }

    /** With points, fouls, an evening, sights, and an image of other things. */
    private static BaizeCorps used(int a, int b, int c) {
        BaizeCorps x = lying(41, 42, 43);
        x.score(11, 12);
        x.seen(2, 24);
        x.image(0);
        text(x, "...").done();
        for (int ball = 0; ball < 3; ball++) {
            x.ball(ball, DOWN);
        }
        x.ball(0, a);
        x.ball(1, b);
        x.ball(2, c);
        x.score(7, 8);
        x.seen(0, 22);
        return x;
    }

    /** What can be asked of an object, its pad and its images, with an end to it. */
    private static String all(BaizeCorps x) {
        StringBuilder all = new StringBuilder();
        standing(all, x);
        all.append(x.fault()).append(' ');
        for (int what = 0; what < 3; what++) {
            all.append(x.judge(what)).append(' ').append(x.behind(what)).append(' ');
            all.append(x.season(5, 90, what)).append(' ');
        }
        for (int what = 0; what < 4; what++) {
            all.append(x.table(what)).append(' ').append(x.candour(what / 2)).append(' ');
        }
        for (int k = 0; k < 18; k++) {
            all.append(x.hint(k % 3, (k + 1 + k / 9) % 3, k / 3 % 3, 0)).append(' ');
        }
        all.append(x.done()).append(' ').append(x.wipe()).append(' ');
        standing(all, x);
        for (int k = 0; k < 2; k++) {
            all.append(x.restore(k)).append(' ');
            standing(all, x);
        }
        all.append(x.forget());
        return all.toString();
    }

    private static void standing(StringBuilder all, BaizeCorps x) {
        for (int what : new int[] {0, 1, 2, 3, 4, 10, 11, 12}) {
            all.append(x.told(what)).append(' ');
        }
        all.append(x.sent(-1)).append(' ').append(x.sent(1)).append(' ').append(x.ask(0)).append("; ");
    }

    /** Refused in this setting, and what can be asked behind it is as if there had been no call. */
    private static void refusedIn(int which, String call, Call made, long want) {
        BaizeCorps x = setting(which);
        due(call + " in setting " + which, made.on(x), want);
        due(call + " in setting " + which + ", again", made.on(x), want);
        if (!all(x).equals(all(setting(which)))) {
            wrong++;
            System.out.println(sentence + ": " + call + " in setting " + which + " changed something");
        }
    }

    private static void refused(String call, Call made, long want) {
        for (int which = 0; which < SETTINGS; which++) {
            refusedIn(which, call, made, want);
        }
    }

    /** Least to most are not refused on a new object, all beyond is refused in every setting. */
    private static void bounds(String call, int least, int most, Tried tried, long refusal) {
        for (int number = least; number <= most; number++) {
            inside(call, number, tried, refusal);
        }
        for (int number : new int[] {least - 1, most + 1, least - 2, most + 2, LEAST, LEAST + 1, GREATEST - 1,
                GREATEST}) {
            outside(call, number, tried, refusal);
        }
    }

    private static void inside(String call, int number, Tried tried, long refusal) {
        long got = tried.on(new BaizeCorps(), number);
        if (got == refusal) {
            due(call + " with " + number, got, 0);
        }
    }

    private static void outside(String call, int number, Tried tried, long refusal) {
        refused(call + " with " + number, x -> tried.on(x, number), refusal);
    }

    /** Of a number that tells a cell, where a pocket is none. */
    private static void placeBounds(String call, int least, Tried tried) {
        for (int cell = least; cell <= 44; cell++) {
            if (!isPocket(cell)) {
                inside(call, cell, tried, UNKNOWN);
            }
        }
        for (int cell : POCKETS) {
            outside(call + ", a pocket,", cell, tried, UNKNOWN);
        }
        for (int cell : new int[] {least - 1, 45, least - 2, 46, LEAST, LEAST + 1, GREATEST - 1, GREATEST}) {
            outside(call, cell, tried, UNKNOWN);
        }
    }

    private static boolean isPocket(int cell) {
        for (int pocket : POCKETS) {
            if (cell == pocket) {
                return true;
            }
        }
        return false;
    }

    private static void dueTold(BaizeCorps x, int points, int fouls, int evening, int a, int b, int c) {
        due("told(1)", x.told(1), points);
        due("told(2)", x.told(2), fouls);
        due("told(3)", x.told(3), evening);
        due("told(10)", x.told(10), a);
        due("told(11)", x.told(11), b);
        due("told(12)", x.told(12), c);
    }

    private static void dueBehind(String call, BaizeCorps x, int a, int b, int c) {
        due(call + " behind(0)", x.behind(0), a);
        due(call + " behind(1)", x.behind(1), b);
        due(call + " behind(2)", x.behind(2), c);
    }

    // ---- Terms

    private static void terms() {
        test("Terms: the first of these that fits, UNKNOWN ahead of OUTSIDE", () -> {
            refused("hint(3, 0, 5, 0)", x -> x.hint(3, 0, 5, 0), UNKNOWN);
            refused("hint(0, -1, 0, 2)", x -> x.hint(0, -1, 0, 2), UNKNOWN);
            refused("hint(1, 1, -1, 0)", x -> x.hint(1, 1, -1, 0), UNKNOWN);
            refused("alone(0, 8, 0, 0)", x -> x.alone(0, 8, 0, 0), UNKNOWN);
            refused("alone(45, 0, -1, 0)", x -> x.alone(45, 0, -1, 0), UNKNOWN);
            refused("alone(-1, 0, 0, 3)", x -> x.alone(-1, 0, 0, 3), UNKNOWN);
            refused("strokes(44, 1, 2)", x -> x.strokes(44, 1, 2), UNKNOWN);
            refused("strokes(1, 45, -1)", x -> x.strokes(1, 45, -1), UNKNOWN);
            refused("seen(61, 45)", x -> x.seen(61, 45), UNKNOWN);
            refused("seen(-1, -1)", x -> x.seen(-1, -1), UNKNOWN);
        });
        test("Terms: the first of these that fits, UNKNOWN ahead of NO", () -> {
            refusedIn(FAULTY, "behind(3)", x -> x.behind(3), UNKNOWN);
            refusedIn(FAULTY, "behind(-1)", x -> x.behind(-1), UNKNOWN);
        });
        test("Terms: the first of these that fits, UNKNOWN ahead of STATE", () -> {
            refusedIn(CAN_NOT, "behind(3)", x -> x.behind(3), UNKNOWN);
            refusedIn(CAN_NOT, "behind(-1)", x -> x.behind(-1), UNKNOWN);
            refusedIn(PLAIN, "ball(3, 22)", x -> x.ball(3, 22), UNKNOWN);
            refusedIn(PLAIN, "ball(-1, 24)", x -> x.ball(-1, 24), UNKNOWN);
        });
        test("Terms: the first of these that fits, UNKNOWN ahead of FULL", () ->
            refusedIn(ALL_FULL, "seen(0, 45)", x -> x.seen(0, 45), UNKNOWN));
        test("Terms: the first of these that fits, OUTSIDE ahead of NO", () -> {
            refusedIn(FAULTY, "judge(3)", x -> x.judge(3), OUTSIDE);
            refusedIn(FAULTY, "table(4)", x -> x.table(4), OUTSIDE);
            refusedIn(FAULTY, "candour(2)", x -> x.candour(2), OUTSIDE);
        });
        test("Terms: the first of these that fits, OUTSIDE ahead of STATE", () -> {
            refusedIn(CAN_NOT, "judge(3)", x -> x.judge(3), OUTSIDE);
            refusedIn(CAN_NOT, "table(-1)", x -> x.table(-1), OUTSIDE);
            refusedIn(CAN_NOT, "candour(-1)", x -> x.candour(-1), OUTSIDE);
            refusedIn(FRESH, "restore(2)", x -> x.restore(2), OUTSIDE);
            refusedIn(FRESH, "restore(-1)", x -> x.restore(-1), OUTSIDE);
        });
        test("Terms: the first of these that fits, OUTSIDE ahead of FULL", () -> {
            refusedIn(ALL_FULL, "say(32)", x -> x.say(32), OUTSIDE);
            refusedIn(ALL_FULL, "say(127)", x -> x.say(127), OUTSIDE);
            refusedIn(ALL_FULL, "seen(61, 0)", x -> x.seen(61, 0), OUTSIDE);
        });
        test("Terms: the first of these that fits, NO ahead of STATE", () -> {
            BaizeCorps x = say(new BaizeCorps(), "A^D");
            due("judge(2)", x.judge(2), NO);
            due("judge(0)", x.judge(0), NO);
            due("behind(0)", x.behind(0), NO);
            due("table(0)", x.table(0), NO);
            due("candour(0)", x.candour(0), NO);
            due("done()", x.done(), NO);
            due("told(0)", x.told(0), 3);
        });
        test("Terms: they change nothing, NO", () -> {
            for (int what = 0; what < 3; what++) {
                int k = what;
                refusedIn(FAULTY, "judge(" + k + ")", x -> x.judge(k), NO);
                refusedIn(FAULTY, "behind(" + k + ")", x -> x.behind(k), NO);
                refusedIn(FAULTY, "table(" + (k + 1) + ")", x -> x.table(k + 1), NO);
            }
            refusedIn(FAULTY, "table(0)", x -> x.table(0), NO);
            refusedIn(FAULTY, "candour(0)", x -> x.candour(0), NO);
            refusedIn(FAULTY, "candour(1)", x -> x.candour(1), NO);
            refusedIn(FAULTY, "done()", x -> x.done(), NO);
        });
        test("Terms: they change nothing, STATE", () -> {
            refusedIn(CAN_NOT, "judge(2)", x -> x.judge(2), STATE);
            for (int what = 0; what < 3; what++) {
                int k = what;
                refusedIn(CAN_NOT, "behind(" + k + ")", x -> x.behind(k), STATE);
                refusedIn(CAN_NOT, "table(" + (k + 1) + ")", x -> x.table(k + 1), STATE);
            }
            refusedIn(CAN_NOT, "table(0)", x -> x.table(0), STATE);
            refusedIn(CAN_NOT, "candour(0)", x -> x.candour(0), STATE);
            refusedIn(CAN_NOT, "candour(1)", x -> x.candour(1), STATE);
            refusedIn(CAN_NOT, "done()", x -> x.done(), STATE);
            refusedIn(PLAIN, "ball(0, 22)", x -> x.ball(0, 22), STATE);
            refusedIn(PLAIN, "ball(2, 20)", x -> x.ball(2, 20), STATE);
            refusedIn(FRESH, "restore(0)", x -> x.restore(0), STATE);
            refusedIn(FRESH, "restore(1)", x -> x.restore(1), STATE);
            refusedIn(PLAIN, "restore(1)", x -> x.restore(1), STATE);
        });
        test("Terms: they change nothing, FULL", () -> {
            refusedIn(ALL_FULL, "say(33)", x -> x.say(33), FULL);
            refusedIn(ALL_FULL, "say('.')", x -> x.say('.'), FULL);
            refusedIn(ALL_FULL, "seen(0, 22)", x -> x.seen(0, 22), FULL);
        });
        test("Terms: a sign that is said changes what fault() tells", () -> {
            BaizeCorps x = new BaizeCorps();
            due("fault() of none", x.fault(), NONE);
            x.say('A');
            due("fault() of A", x.fault(), 1);
            x.say(127);
            due("fault(), 127 is not said", x.fault(), 1);
            x.say('2');
            due("fault() of A2", x.fault(), 2);
            x.say(32);
            x.say('5');
            due("fault() of A25", x.fault(), NONE);
            x.say('5');
            due("fault() of A255", x.fault(), 3);
            x.say('A');
            due("fault() of A255A", x.fault(), 3);
        });
        test("Terms: fractions are told in lowest terms by part: 0 the upper, 1 the lower number", () -> {
            BaizeCorps x = new BaizeCorps();
            due("match(1, 4, 0, 0, 0, 0)", x.match(1, 4, 0, 0, 0, 0), 2);
            due("match(1, 4, 0, 0, 0, 1)", x.match(1, 4, 0, 0, 0, 1), 5);
            due("match(1, 0, 0, 0, 0, 0)", x.match(1, 0, 0, 0, 0, 0), 0);
            due("match(1, 0, 0, 0, 0, 1)", x.match(1, 0, 0, 0, 0, 1), 1);
            due("match(1, 10, 0, 0, 0, 0)", x.match(1, 10, 0, 0, 0, 0), 1);
            due("match(1, 10, 0, 0, 0, 1)", x.match(1, 10, 0, 0, 0, 1), 1);
        });
        test("Terms: refused with GONE and the refusal", () -> {
            due("GONE", BaizeCorps.GONE, GONE);
            due("match(0, 0, 0, 0, 0, 0)", new BaizeCorps().match(0, 0, 0, 0, 0, 0), -1000000000000000002L);
            bounds("match's part", 0, 1, (x, part) -> x.match(3, 5, 0, 0, 0, part), GONE + OUTSIDE);
        });
        test("An object is used for at most 512 calls", () -> {
            BaizeCorps x = new BaizeCorps();
            for (int call = 1; call <= 510; call++) {
                due("call " + call, call % 2 == 1 ? x.say('~') : x.wipe(), 1);
            }
            due("call 511, sent(311)", x.sent(311), 437);
            due("call 512, chalk(999, 1, 1)", x.chalk(999, 1, 1), 8);
        });
    }

    // ---- 1, promises 1 to 3

    private static void theTable() {
        test("1: BALLS at first on 10, 16, 24", () -> {
            BaizeCorps x = new BaizeCorps();
            due("told(10)", x.told(10), 10);
            due("told(11)", x.told(11), 16);
            due("told(12)", x.told(12), 24);
        });
        test("1: POINTS, FOULS are 0 at first, it is evening 0", () -> {
            BaizeCorps x = new BaizeCorps();
            due("told(1)", x.told(1), 0);
            due("told(2)", x.told(2), 0);
            due("told(3)", x.told(3), 0);
            due("score(0, 0)", x.score(0, 0), 0);
        });
        test("Promise 1: nothing said, seen or kept at first", () -> {
            BaizeCorps x = new BaizeCorps();
            due("told(0)", x.told(0), 0);
            due("told(4)", x.told(4), 0);
            due("wipe()", x.wipe(), 0);
            due("forget()", x.forget(), 0);
            due("restore(0)", x.restore(0), STATE);
            due("restore(1)", x.restore(1), STATE);
        });
        test("Promise 1: of two objects each has its own", () -> {
            BaizeCorps x = setting(ALL_FULL);
            BaizeCorps y = new BaizeCorps();
            x.image(1);
            dueTold(y, 0, 0, 0, 10, 16, 24);
            due("told(0)", y.told(0), 0);
            due("told(4)", y.told(4), 0);
            due("restore(1)", y.restore(1), STATE);
        });
        test("Promise 2: BALLS 0 to 2, UNKNOWN", () -> bounds("ball's ball", 0, 2, (x, ball) -> x.ball(ball, 20),
            UNKNOWN));
        test("Promise 2: CELLS 0 to 44, no POCKET, -1: DOWN, UNKNOWN", () -> {
            placeBounds("ball's cell", -1, (x, cell) -> x.ball(0, cell));
            placeBounds("ball's cell, of another ball", -1, (x, cell) -> x.ball(1, cell));
        });
        test("Promise 2: each CELL that is no POCKET takes a BALL", () -> {
            BaizeCorps x = lying(DOWN, DOWN, DOWN);
            int before = NONE;
            for (int cell = 0; cell <= 44; cell++) {
                if (!isPocket(cell)) {
                    due("ball(2, " + cell + ")", x.ball(2, cell), before);
                    due("told(12)", x.told(12), cell);
                    before = cell;
                }
            }
        });
        test("Promise 2: on which it was (NONE)", () -> {
            BaizeCorps x = new BaizeCorps();
            due("ball(1, -1)", x.ball(1, DOWN), 16);
            due("told(11)", x.told(11), NONE);
            due("ball(1, -1) again", x.ball(1, DOWN), NONE);
            due("ball(1, 43)", x.ball(1, 43), NONE);
            due("ball(1, 1)", x.ball(1, 1), 43);
            due("ball(1, 1), where it lies", x.ball(1, 1), 1);
        });
        test("Promise 2: STATE: another one lies there", () -> {
            for (int k = 0; k < 9; k++) {
                BaizeCorps x = lying(11, 21, 31);
                int cell = 11 + 10 * (k / 3);
                due("ball(" + k % 3 + ", " + cell + ")", x.ball(k % 3, cell), k % 3 == k / 3 ? cell : STATE);
                dueTold(x, 0, 0, 0, 11, 21, 31);
            }
            BaizeCorps x = lying(11, DOWN, 31);
            due("ball(1, 11), from below", x.ball(1, 11), STATE);
            due("told(11)", x.told(11), NONE);
            due("ball(0, -1)", x.ball(0, DOWN), 11);
            due("ball(1, 11), left free", x.ball(1, 11), NONE);
            due("ball(2, -1), two are down, that is no cell", x.ball(2, DOWN), 31);
            due("ball(0, -1)", x.ball(0, DOWN), NONE);
        });
        test("Promise 3: POINTS 0 to 99, OUTSIDE", () ->
            bounds("score's points", 0, 99, (x, points) -> x.score(points, 5), OUTSIDE));
        test("Promise 3: FOULS 0 to 99, OUTSIDE", () ->
            bounds("score's fouls", 0, 99, (x, fouls) -> x.score(5, fouls), OUTSIDE));
        test("Promise 3: both are OUTSIDE", () -> refused("score(100, -1)", x -> x.score(100, -1), OUTSIDE));
        test("Promise 3: 100 times the one and the other, as they were", () -> {
            BaizeCorps x = new BaizeCorps();
            due("score(99, 99)", x.score(99, 99), 0);
            due("score(0, 99)", x.score(0, 99), 9999);
            due("score(99, 0)", x.score(99, 0), 99);
            due("score(1, 2)", x.score(1, 2), 9900);
            due("score(0, 0)", x.score(0, 0), 102);
        });
        test("Promise 3: POINTS and FOULS beyond 99, by what is done", () -> {
            BaizeCorps x = lying(2, 3, DOWN);
            x.score(99, 99);
            due("done()", text(x, "A22").done(), 1);
            due("told(1)", x.told(1), 102);
            due("told(2)", x.told(2), 100);
            due("score(99, 99)", x.score(99, 99), 10300);
        });
    }

    // ---- 1, a stroke

    private static void dueWay(int from, String text, int cell, int cushions) {
        BaizeCorps x = say(lying(from, DOWN, DOWN), text);
        due(from + " " + text + " behind(0)", x.behind(0), cell);
        due(from + " " + text + " candour(1)", x.candour(1), cushions);
    }

    private static void theStroke() {
        test("1: a WAY 0 to 7", () -> {
            int[] next = {13, 14, 23, 32, 31, 30, 21, 12};
            for (int way = 0; way < 8; way++) {
                dueWay(22, "A" + way + "1", next[way], 0);
            }
            due("way 8", say(new BaizeCorps(), "A81").fault(), 1);
            due("a way below 0", say(new BaizeCorps(), "A/1").fault(), 1);
        });
        test("1: a FORCE 1 to 9, each step takes 1", () -> {
            int[] cells = {19, 20, 21, 22, 23, 24, 25, 26, 25};
            for (int force = 1; force <= 9; force++) {
                dueWay(18, "A2" + force, cells[force - 1], force == 9 ? 1 : 0);
            }
            due("force 0", say(new BaizeCorps(), "A20").fault(), 2);
            due("a force beyond 9", say(new BaizeCorps(), "A2:").fault(), 2);
        });
        test("1: would a step lead beyond a first row", () -> {
            dueWay(11, "A01", 2, 0);
            dueWay(11, "A02", 11, 1);
            dueWay(2, "A01", 11, 1);
            dueWay(2, "A11", 12, 1);
            dueWay(2, "A71", 10, 1);
            dueWay(2, "A21", 3, 0);
        });
        test("1: would a step lead beyond a last row", () -> {
            dueWay(29, "A41", 38, 0);
            dueWay(29, "A42", 29, 1);
            dueWay(38, "A41", 29, 1);
            dueWay(38, "A31", 30, 1);
            dueWay(38, "A51", 28, 1);
            dueWay(38, "A61", 37, 0);
        });
        test("1: would a step lead beyond a first column", () -> {
            dueWay(19, "A61", 18, 0);
            dueWay(19, "A62", 19, 1);
            dueWay(18, "A61", 19, 1);
            dueWay(18, "A51", 28, 1);
            dueWay(18, "A71", 10, 1);
            dueWay(18, "A01", 9, 0);
        });
        test("1: would a step lead beyond a last column", () -> {
            dueWay(25, "A21", 26, 0);
            dueWay(25, "A22", 25, 1);
            dueWay(26, "A21", 25, 1);
            dueWay(26, "A11", 16, 1);
            dueWay(26, "A31", 34, 1);
            dueWay(26, "A41", 35, 0);
        });
        test("1: (or both), turned about there, and goes by that at once", () -> {
            int[][] corners = {{10, 7, 0, 20}, {16, 1, 8, 24}, {28, 5, 36, 20}, {34, 3, 44, 24}};
            for (int[] corner : corners) {
                BaizeCorps x = new BaizeCorps();
                int cell = corner[0];
                int way = corner[1];
                due("alone(" + cell + ", " + way + ", 1, 0)", x.alone(cell, way, 1, 0), corner[2]);
                due("alone(" + cell + ", " + way + ", 2, 0)", x.alone(cell, way, 2, 0), cell);
                due("alone(" + cell + ", " + way + ", 3, 0)", x.alone(cell, way, 3, 0), corner[3]);
            }
        });
        test("1: cushion by cushion, the row's and the column's each on its own", () -> {
            dueWay(1, "A71", 9, 1);
            dueWay(1, "A72", 19, 2);
            dueWay(1, "A74", 39, 2);
            dueWay(1, "A75", 31, 3);
            dueWay(17, "A11", 7, 1);
            dueWay(17, "A12", 15, 2);
            dueWay(26, "A39", 28, 4);
        });
        test("1: the step is taken by FORCE alone; at 0 all lies still", () -> {
            dueBehind("A21", say(lying(20, 22, 24), "A21"), 21, 22, 24);
            dueBehind("A22", say(lying(20, 22, 24), "A22"), 21, 22, 24);
            dueBehind("A23", say(lying(20, 22, 24), "A23"), 21, 23, 24);
            dueBehind("A24", say(lying(20, 22, 24), "A24"), 21, 23, 24);
            dueBehind("A25", say(lying(20, 22, 24), "A25"), 21, 23, 25);
        });
        test("1: the CELL to which it would go, behind the CUSHION", () -> {
            dueBehind("to 19, not to 17", say(lying(18, 19, 17), "A62"), 18, 20, 17);
            dueBehind("from 26 to 25, not to 27", say(lying(26, 25, 27), "A22"), 26, 24, 27);
            dueBehind("from 2 to 11", say(lying(2, 11, DOWN), "A02"), 2, 20, NONE);
            dueBehind("from 38 to 29", say(lying(38, 29, DOWN), "A42"), 38, 20, NONE);
        });
        test("1: the TOUCHED one goes on by the WAY it was TOUCHED", () -> {
            dueBehind("by 5, turned from 7, and by 3", say(lying(1, 9, DOWN), "A72"), 1, 19, NONE);
            dueBehind("by 3, turned from 1", say(lying(2, 12, DOWN), "A13"), 2, 32, NONE);
            dueBehind("back upon the one it came from", say(lying(23, 25, DOWN), "A25"), 24, 25, NONE);
            dueBehind("that goes on", say(lying(23, 25, DOWN), "A26"), 23, 25, NONE);
        });
        test("1: one that comes to a POCKET is DOWN, each POCKET from each side", () -> {
            String[] ways = {"1:6 9:0 10:7", "3:2 5:6 13:0 12:1 14:7", "7:2 17:0 16:1", "37:6 27:4 28:5",
                "39:2 41:6 31:4 30:3 32:5", "43:2 35:4 34:3"};
            for (String pocket : ways) {
                for (String side : pocket.split(" ")) {
                    String[] parts = side.split(":");
                    for (int force = 1; force <= 9; force += 8) {
                        dueWay(Integer.parseInt(parts[0]), "A" + parts[1] + force, NONE, 0);
                    }
                }
            }
        });
        test("1: just to the CELL ahead of a POCKET, just into it", () -> {
            dueWay(2, "A61", 1, 0);
            dueWay(2, "A62", NONE, 0);
            dueWay(22, "A01", 13, 0);
            dueWay(22, "A02", NONE, 0);
            dueWay(30, "A72", 10, 0);
            dueWay(30, "A73", NONE, 0);
        });
        test("1: one that is DOWN, and all lies still", () -> {
            dueBehind("A29", say(lying(2, 3, 5), "A29"), 2, NONE, 5);
            dueBehind("A69", say(lying(6, 1, 3), "A69"), NONE, 1, 3);
        });
        test("1: POINTS: 2, if BALLS were TOUCHED twice at least (be it one)", () -> {
            due("not touched", say(lying(20, 22, 24), "A21").table(0), 0);
            due("once", say(lying(20, 22, 24), "A23").table(0), 0);
            due("twice, by the last of the force", say(lying(20, 22, 24), "A24").table(0), 2);
            due("twice, and on", say(lying(20, 22, 24), "A25").table(0), 2);
            due("twice, of two", say(lying(23, 25, DOWN), "A24").table(0), 0);
            due("twice, of two, there and back", say(lying(23, 25, DOWN), "A25").table(0), 2);
            BaizeCorps x = say(lying(23, 24, 26), "A24");
            due("three times, one of them twice", x.table(0), 2);
            due("how often", x.judge(2), 3);
            due("once in each of two strokes", say(lying(20, 21, DOWN), "A21A21").table(0), 0);
        });
        test("1: POINTS: 3, if one is DOWN by it that is not the one that was sent", () -> {
            due("touched, not down", say(lying(2, 3, DOWN), "A21").table(0), 0);
            due("touched and down", say(lying(2, 3, DOWN), "A22").table(0), 3);
            due("the third one is down", say(lying(5, 6, 7), "A23").table(0), 5);
            due("who was sent is down", say(lying(3, DOWN, DOWN), "A21").table(0), 0);
            due("by two strokes", say(lying(2, 3, 6), "A22C61C61").table(0), 3);
            due("brought up and down once more", say(lying(2, 3, DOWN), "A22B^A21").table(0), 3);
        });
        test("1: FOULS are 1 more, if the one that was sent is DOWN by it", () -> {
            due("ahead of the pocket", say(lying(2, DOWN, DOWN), "A61").table(1), 0);
            due("in the pocket", say(lying(2, DOWN, DOWN), "A62").table(1), 1);
            due("all three", say(lying(1, 5, 37), "A61B61C61").table(1), 3);
        });
        test("1: and 1 more, if a BALL was TOUCHED, and there was no CUSHION ahead", () -> {
            due("not touched", say(lying(20, 22, DOWN), "A21").table(1), 0);
            due("touched by the last of the force", say(lying(20, 22, DOWN), "A22").table(1), 1);
            due("off a cushion, not touched yet", say(lying(20, 22, DOWN), "A65").table(1), 0);
            due("off a cushion", say(lying(20, 22, DOWN), "A66").table(1), 0);
            due("a cushion behind the touch", say(lying(23, 25, DOWN), "A25").table(1), 1);
            due("the cushion of the stroke before", say(lying(18, 20, DOWN), "A61A21").table(1), 1);
            due("two touched, one foul", say(lying(20, 22, 24), "A25").table(1), 1);
        });
        test("1: one at that step is ahead of it", () -> {
            due("off a cushion at that step", say(lying(1, 9, DOWN), "A71").table(1), 0);
            due("the plain way", say(lying(1, 9, DOWN), "A51").table(1), 1);
            due("straight back", say(lying(18, 19, DOWN), "A61").table(1), 0);
            due("the plain way", say(lying(18, 19, DOWN), "A21").table(1), 1);
            due("a cushion a step behind", say(lying(25, 26, DOWN), "A22").table(1), 1);
        });
    }

    // ---- 1, crises; promises 4 to 6

    private static void dueFault(String text, int want) {
        due("fault() of '" + text + "'", say(new BaizeCorps(), text).fault(), want);
    }

    private static void crises() {
        test("Promise 4: codes 33 to 126, OUTSIDE", () ->
            bounds("say's sign", 33, 126, (x, sign) -> x.say(sign), OUTSIDE));
        test("Promise 4: a PAD of up to 60 signs, how many, FULL", () -> {
            BaizeCorps x = new BaizeCorps();
            for (int k = 1; k <= 60; k++) {
                due("say, the " + k + "-th", x.say(k % 2 == 0 ? '~' : '.'), k);
                due("told(0)", x.told(0), k);
            }
            due("say, the 61-st", x.say('~'), FULL);
            due("say, the 62-nd", x.say(126), FULL);
            due("told(0)", x.told(0), 60);
            due("fault()", x.fault(), NONE);
            due("wipe()", x.wipe(), 60);
            due("say, room again", x.say('~'), 1);
        });
        test("Promise 5: signs go: how many there were", () -> {
            BaizeCorps x = new BaizeCorps();
            due("wipe() of none", x.wipe(), 0);
            x.say('D');
            due("wipe() of one", x.wipe(), 1);
            due("fault()", x.fault(), NONE);
            due("told(0)", x.told(0), 0);
            due("wipe() of none again", x.wipe(), 0);
            due("wipe() of 59", say(x, "~".repeat(59)).wipe(), 59);
            due("wipe() of 60", say(x, "~".repeat(60)).wipe(), 60);
        });
        test("Promise 5: nothing but the signs goes", () -> {
            BaizeCorps x = setting(PLAIN);
            x.wipe();
            dueTold(x, 7, 8, 3, 20, 22, 24);
            due("told(4)", x.told(4), 2);
            due("restore(0)", x.restore(0), 1);
        });
        test("1: a BALL's letter, A to C", () -> {
            dueFault("@21", 0);
            dueFault("A21", NONE);
            dueFault("C21", NONE);
            dueFault("D21", 0);
            dueFault("a21", 0);
            dueFault("~@", 1);
            dueFault("~D", 1);
        });
        test("1: a digit 0 to 7, or ^", () -> {
            dueFault("A/1", 1);
            dueFault("A01", NONE);
            dueFault("A71", NONE);
            dueFault("A81", 1);
            dueFault("A]", 1);
            dueFault("A^", NONE);
            dueFault("A_", 1);
            dueFault("A~", 1);
            dueFault("A.", 1);
            dueFault("AB", 1);
        });
        test("1: and a digit 1 to 9", () -> {
            dueFault("A20", 2);
            dueFault("A21", NONE);
            dueFault("A29", NONE);
            dueFault("A2:", 2);
            dueFault("A2^", 2);
            dueFault("A2~", 2);
            dueFault("A2.", 2);
            dueFault("A2B", 2);
        });
        test("1: ~ or .", () -> {
            dueFault("~", NONE);
            dueFault("}", 0);
            dueFault(".", NONE);
            dueFault("-", 0);
            dueFault("/", 0);
            dueFault("^", 0);
            dueFault("0", 0);
            dueFault("9", 0);
            dueFault("!", 0);
        });
        test("1: THE FAULT: the place (from 0 on) of the first sign that can not stand there", () -> {
            dueFault("DD", 0);
            dueFault("~.D.D", 2);
            dueFault("A21A^D", 5);
            dueFault("A21A^1", 5);
            dueFault("A211", 3);
            dueFault("A2~A", 2);
            due("the last of 60", say(new BaizeCorps(), "~".repeat(59) + "!").fault(), 59);
        });
        test("1: or the number of signs, if more must come", () -> {
            dueFault("A", 1);
            dueFault("A2", 2);
            dueFault("A21B", 4);
            dueFault("A21B7", 5);
            dueFault("~C", 2);
            due("59 and a letter", say(new BaizeCorps(), "~".repeat(59) + "A").fault(), 60);
            due("58, a letter and a way", say(new BaizeCorps(), "~".repeat(58) + "A2").fault(), 60);
            due("57 and a stroke", say(new BaizeCorps(), "~".repeat(57) + "A21").fault(), NONE);
        });
        test("1: an empty PAD has no FAULT: no ACTS", () -> {
            BaizeCorps x = new BaizeCorps();
            due("fault()", x.fault(), NONE);
            due("judge(0)", x.judge(0), NONE);
            due("judge(1)", x.judge(1), NONE);
            due("judge(2)", x.judge(2), 0);
            due("candour(0)", x.candour(0), NONE);
            due("candour(1)", x.candour(1), 0);
            due("done()", x.done(), 0);
        });
        nap();
        reasons();
    }

    private static void nap() {
        test("1: nap: a column less, if there is one", () -> {
            dueBehind("columns 0, 1, 8", say(lying(9, 28, 26), "~"), 9, 27, 25);
            dueBehind("column 0 of each row", say(lying(9, 18, 27), "~~"), 9, 18, 27);
            dueBehind("to the first column and no further", say(lying(20, 12, DOWN), "~~~~~"), 18, 9, NONE);
        });
        test("1: nap: if that CELL is no POCKET", () -> {
            dueBehind("beside 0, 4, 36", say(lying(1, 5, 37), "~"), 1, 5, 37);
            dueBehind("beside 40, and 4 and 44 from the other side", say(lying(41, 3, 43), "~"), 41, 2, 42);
            dueBehind("beside 8", say(lying(7, 17, 35), "~"), 6, 16, 34);
        });
        test("1: nap: and no BALL lies there", () -> {
            dueBehind("at the edge", say(lying(18, 19, 20), "~"), 18, 19, 20);
            dueBehind("at the edge, the letters turned", say(lying(20, 19, 18), "~"), 20, 19, 18);
            dueBehind("at a pocket", say(lying(2, 1, 3), "~"), 2, 1, 3);
            dueBehind("a gap closes", say(lying(18, 20, 21), "~"), 18, 19, 20);
            dueBehind("the next row's edge is another row", say(lying(18, 17, DOWN), "~"), 18, 16, NONE);
        });
        test("1: nap: those of a lesser column first", () -> {
            dueBehind("A, B, C", say(lying(20, 21, 22), "~"), 19, 20, 21);
            dueBehind("C, B, A", say(lying(22, 21, 20), "~"), 21, 20, 19);
            dueBehind("B, C, A", say(lying(22, 20, 21), "~"), 21, 19, 20);
        });
        test("1: nap: of as much A first", () -> dueBehind("one column", say(lying(29, 20, 11), "~"), 28, 19, 10));
        test("1: nap: all BALLS on the TABLE", () -> {
            dueBehind("one", say(lying(DOWN, 21, DOWN), "~"), NONE, 20, NONE);
            dueBehind("none", say(lying(DOWN, DOWN, DOWN), "~"), NONE, NONE, NONE);
        });
    }

    private static void dueReason(String call, BaizeCorps x, int act, int why) {
        due(call + " judge(0)", x.judge(0), act);
        due(call + " judge(1)", x.judge(1), why);
        due(call + " judge(2)", x.judge(2), act == NONE ? 0 : STATE);
    }

    private static void reasons() {
        test("1: an ACT can not be: 1 the BALL is DOWN (a STROKE)", () -> {
            dueReason("A down", say(lying(DOWN, 21, 31), "A01"), 0, 1);
            dueReason("B down", say(lying(11, DOWN, 31), "B01"), 0, 1);
            dueReason("C down", say(lying(11, 21, DOWN), "C01"), 0, 1);
            dueReason("none down", say(lying(12, 22, 32), "A21B61C21"), NONE, NONE);
            dueReason("down by the act before", say(lying(1, 22, 32), "A61A01"), 1, 1);
        });
        test("1: an ACT can not be: 1 the BALL is not DOWN (^)", () -> {
            dueReason("A", say(lying(11, DOWN, DOWN), "A^"), 0, 1);
            dueReason("B", say(lying(DOWN, 11, DOWN), "B^"), 0, 1);
            dueReason("C", say(lying(DOWN, DOWN, 11), "C^"), 0, 1);
            dueReason("where it lay at first", say(new BaizeCorps(), "A^"), 0, 1);
            dueReason("brought up twice", say(lying(DOWN, 11, 12), "A^A^"), 1, 1);
        });
        test("1: an ACT can not be: 2 another one lies there (^)", () -> {
            dueReason("B on 10", say(lying(DOWN, 10, 31), "A^"), 0, 2);
            dueReason("C on 16", say(lying(11, DOWN, 16), "B^"), 0, 2);
            dueReason("A on 24", say(lying(24, 21, DOWN), "C^"), 0, 2);
            dueReason("beside it", say(lying(DOWN, 9, 11), "A^"), NONE, NONE);
            dueReason("all three", say(lying(DOWN, DOWN, DOWN), "A^B^C^"), NONE, NONE);
            dueBehind("all three", say(lying(DOWN, DOWN, DOWN), "A^B^C^"), 10, 16, 24);
            dueReason("left free", say(lying(DOWN, 10, 31), "B21A^"), NONE, NONE);
        });
        test("1: an ACT can not be: 3 it is evening 99 (.)", () -> {
            dueReason("evening 97", say(evening(97), ".."), NONE, NONE);
            dueReason("evening 98", say(evening(98), "."), NONE, NONE);
            dueReason("evening 98, two", say(evening(98), ".."), 1, 3);
            dueReason("evening 99", say(evening(99), "."), 0, 3);
            dueReason("evening 99, other acts", say(evening(99), "~A01"), NONE, NONE);
        });
        test("1: the least of these reasons", () -> {
            dueReason("not down, and another one lies there", say(lying(11, 10, DOWN), "A^"), 0, 1);
            dueReason("the first act's, not the least of all", say(lying(DOWN, 10, 31), "A^B^"), 0, 2);
        });
        test("1: ~ can always be", () -> {
            dueReason("all down", say(lying(DOWN, DOWN, DOWN), "~"), NONE, NONE);
            dueReason("at the edge", say(lying(9, 18, 27), "~"), NONE, NONE);
        });
    }

    // ---- 2, promises 7 to 11

    private static void whatIsBehind() {
        test("Promise 7: what 0 to 2, OUTSIDE", () -> bounds("judge", 0, 2, (x, what) -> x.judge(what), OUTSIDE));
        test("Promise 7: the ACT (from 0 on), NONE", () -> {
            BaizeCorps x = evening(99);
            due("the first", text(x, ".").judge(0), 0);
            due("the second", text(x, "~.").judge(0), 1);
            due("the last of 60", text(x, "~".repeat(59) + ".").judge(0), 59);
            due("the last of 60, why", x.judge(1), 3);
            due("none of 60", text(x, "~".repeat(60)).judge(0), NONE);
            due("none of 60, why", x.judge(1), NONE);
            due("acts, not signs", text(x, "A21A61.").judge(0), 2);
            due("the first of two", text(x, "~A^.").judge(0), 1);
        });
        test("Promise 7: NO: there is a FAULT", () -> {
            for (int what = 0; what < 3; what++) {
                BaizeCorps x = say(new BaizeCorps(), "A2");
                due("judge(" + what + ")", x.judge(what), NO);
                x.say('1');
                due("judge(" + what + "), no fault", x.judge(what), what == 2 ? 0 : NONE);
            }
        });
        test("Promise 7: STATE (2): some ACT can not be", () -> {
            BaizeCorps x = say(lying(20, 22, DOWN), "A22A21C21");
            due("judge(0)", x.judge(0), 2);
            due("judge(1)", x.judge(1), 1);
            due("judge(2)", x.judge(2), STATE);
            due("judge(2), all can be", text(x, "A22A21").judge(2), 2);
        });
        test("2: how often BALLS were TOUCHED in the text", () -> {
            due("never", say(lying(20, 22, 24), "A21").judge(2), 0);
            due("once", say(lying(20, 22, 24), "A22").judge(2), 1);
            due("twice", say(lying(20, 22, 24), "A24").judge(2), 2);
            due("19 strokes", say(lying(20, 21, 24), "A21".repeat(19)).judge(2), 19);
            due("not of the text before", text(say(lying(20, 21, 24), "A21"), "").judge(2), 0);
        });
        test("Promise 8: BALLS 0 to 2, UNKNOWN", () ->
            bounds("behind", 0, 2, (x, ball) -> x.behind(ball), UNKNOWN));
        test("Promise 8: NONE: DOWN", () -> {
            dueBehind("of none", lying(DOWN, 1, 43), NONE, 1, 43);
            dueBehind("down by it", say(lying(20, 1, 43), "B61C21"), 20, NONE, NONE);
            dueBehind("brought up", say(lying(20, 1, DOWN), "C^"), 20, 1, 24);
        });
        test("Promise 8: NO, STATE, as of judge(2)", () -> {
            for (int ball = 0; ball < 3; ball++) {
                due("a fault", say(new BaizeCorps(), "A").behind(ball), NO);
                due("an act that can not be", say(new BaizeCorps(), "B01A^").behind(ball), STATE);
            }
        });
        test("Promise 9: what 0 to 3, OUTSIDE", () -> bounds("table", 0, 3, (x, what) -> x.table(what), OUTSIDE));
        test("Promise 9: how many are DOWN, 0 to 3", () -> {
            BaizeCorps x = lying(1, 5, 37);
            due("none", x.table(2), 0);
            due("one", text(x, "A61").table(2), 1);
            due("two", text(x, "A61B61").table(2), 2);
            due("three", text(x, "A61B61C61").table(2), 3);
            due("one brought up", text(x, "A61B61C61A^").table(2), 2);
        });
        test("Promise 9: the evening, up to 99", () -> {
            due("0", new BaizeCorps().table(3), 0);
            due("98", evening(98).table(3), 98);
            due("99", say(evening(98), ".").table(3), 99);
            due("99, refused", say(evening(99), ".").table(3), STATE);
        });
        test("Promise 9: POINTS and FOULS behind 99", () -> {
            BaizeCorps x = lying(2, 3, DOWN);
            x.score(99, 99);
            due("table(0) of none", x.table(0), 99);
            due("table(1) of none", x.table(1), 99);
            due("table(0)", text(x, "A22").table(0), 102);
            due("table(1)", x.table(1), 100);
        });
        test("Promise 9: NO, STATE, likewise", () -> {
            for (int what = 0; what < 4; what++) {
                due("a fault", say(new BaizeCorps(), "~^").table(what), NO);
                due("an act that can not be", say(new BaizeCorps(), "~C^").table(what), STATE);
            }
        });
        test("Promise 10: what 0, 1, OUTSIDE", () -> bounds("candour", 0, 1, (x, what) -> x.candour(what), OUTSIDE));
        test("Promise 10: the first ACT by which FOULS were more; NONE", () -> {
            BaizeCorps x = lying(20, 21, DOWN);
            x.score(0, 99);
            due("none of none", x.candour(0), NONE);
            due("none", text(x, "~.A01").candour(0), NONE);
            due("the first", text(x, "A21A21").candour(0), 0);
            due("the second", text(x, "A01B61").candour(0), NONE);
            due("the second of three", text(x, ".A21B61").candour(0), 1);
            due("behind 57 others", text(x, ".".repeat(57) + "A21").candour(0), 57);
        });
        test("Promise 10: how many CUSHIONS there were in the text", () -> {
            due("none", say(lying(19, DOWN, DOWN), "A61").candour(1), 0);
            due("one", say(lying(19, DOWN, DOWN), "A62").candour(1), 1);
            due("three of one stroke", say(lying(2, DOWN, DOWN), "A09").candour(1), 3);
            due("twenty strokes", say(lying(11, DOWN, DOWN), "A02".repeat(20)).candour(1), 20);
            due("of a touched one", say(lying(25, 26, DOWN), "A22").candour(1), 1);
            due("not of the text before", text(say(lying(2, DOWN, DOWN), "A09"), "~").candour(1), 0);
        });
        test("Promise 10: NO, STATE, likewise", () -> {
            for (int what = 0; what < 2; what++) {
                due("a fault", say(new BaizeCorps(), "A219").candour(what), NO);
                due("an act that can not be", say(new BaizeCorps(), "A21A^").candour(what), STATE);
            }
        });
        done();
    }

    private static void done() {
        test("Promise 11: CRISES are DONE: ACTS, none to 60", () -> {
            BaizeCorps x = lying(20, 22, 24);
            due("of none", x.done(), 0);
            dueTold(x, 0, 0, 0, 20, 22, 24);
            due("of one, three signs", say(x, "A01").done(), 1);
            due("of 60", say(x, ".".repeat(60)).done(), 60);
            due("told(3)", x.told(3), 60);
        });
        test("Promise 11: the PAD is empty then", () -> {
            BaizeCorps x = say(new BaizeCorps(), "~~");
            due("done()", x.done(), 2);
            due("told(0)", x.told(0), 0);
            due("fault()", x.fault(), NONE);
            due("done() again", x.done(), 0);
            dueTold(x, 0, 0, 0, 9, 14, 22);
        });
        test("Promise 11: NO, STATE: the PAD stays, nothing is DONE", () -> {
            BaizeCorps x = say(lying(20, 22, 24), "A25.");
            x.say('B');
            due("a fault", x.done(), NO);
            due("told(0)", x.told(0), 5);
            x.say('^');
            due("an act that can not be", x.done(), STATE);
            due("told(0)", x.told(0), 6);
            dueTold(x, 0, 0, 0, 20, 22, 24);
        });
        test("Promise 11: evening 99 comes, and no other", () -> {
            BaizeCorps x = evening(98);
            due("done() of 98", say(x, ".").done(), 1);
            due("told(3)", x.told(3), 99);
            due("done() of 99", say(x, ".").done(), STATE);
            due("told(3)", x.told(3), 99);
        });
        test("Promise 11: SIGHTS and IMAGES stay", () -> {
            BaizeCorps x = setting(PLAIN);
            due("done()", x.done(), 3);
            due("told(4)", x.told(4), 2);
            due("restore(1)", x.restore(1), STATE);
            due("restore(0)", x.restore(0), 1);
            dueTold(x, 11, 12, 0, 41, 42, 43);
        });
    }

    // ---- 3, promises 12 to 14

    private static void dueHint(BaizeCorps x, int ball, int other, int c, int force, int way) {
        String call = "hint(" + ball + ", " + other + ", " + c + ", ";
        due(call + "0)", x.hint(ball, other, c, 0), force);
        due(call + "1)", x.hint(ball, other, c, 1), way);
    }

    private static void hintsAloneStrokes() {
        test("Promise 12: both BALLS 0 to 2, UNKNOWN", () -> {
            bounds("hint's ball", 0, 1, (x, ball) -> x.hint(ball == 2 ? -1 : ball, 2, 0, 0), UNKNOWN);
            bounds("hint's ball", 1, 2, (x, ball) -> x.hint(ball, 0, 0, 0), UNKNOWN);
            bounds("hint's other", 0, 1, (x, other) -> x.hint(2, other, 0, 0), UNKNOWN);
            bounds("hint's other", 1, 2, (x, other) -> x.hint(0, other, 0, 0), UNKNOWN);
        });
        test("Promise 12: UNKNOWN: both one", () -> {
            for (int ball = 0; ball < 3; ball++) {
                int k = ball;
                refused("hint(" + k + ", " + k + ", 0, 0)", x -> x.hint(k, k, 0, 0), UNKNOWN);
                refused("hint(" + k + ", " + k + ", 4, 1)", x -> x.hint(k, k, 4, 1), UNKNOWN);
            }
        });
        test("Promise 12: c 0 to 4, OUTSIDE", () -> bounds("hint's c", 0, 4, (x, c) -> x.hint(0, 1, c, 0), OUTSIDE));
        test("Promise 12: what 0, 1, OUTSIDE", () ->
            bounds("hint's what", 0, 1, (x, what) -> x.hint(1, 2, 0, what), OUTSIDE));
        test("3: HINT: a FORCE 1 to 9", () -> {
            dueHint(lying(20, 21, DOWN), 0, 1, 0, 1, 2);
            dueHint(lying(18, 26, DOWN), 0, 1, 0, 8, 2);
            dueHint(lying(19, 26, DOWN), 0, 1, 1, 9, 6);
            dueHint(lying(20, 26, DOWN), 0, 1, 1, NONE, NONE);
        });
        test("3: HINT: behind c CUSHIONS just", () -> {
            dueHint(lying(1, 15, DOWN), 0, 1, 3, 7, 7);
            dueHint(lying(1, 15, DOWN), 0, 1, 4, 9, 1);
            dueHint(lying(20, 21, DOWN), 0, 1, 1, 5, 6);
            dueHint(lying(20, 21, DOWN), 0, 1, 2, NONE, NONE);
            dueHint(lying(20, 21, DOWN), 0, 1, 4, NONE, NONE);
            // a cushion at that step, with none ahead of it
            dueHint(lying(18, 19, DOWN), 0, 1, 0, 1, 2);
            dueHint(lying(18, 19, DOWN), 0, 1, 1, 1, 6);
        });
        test("3: HINT: as the first one", () -> {
            dueHint(lying(20, 22, 21), 0, 1, 0, NONE, NONE);
            dueHint(lying(20, 22, 21), 0, 2, 0, 1, 2);
            dueHint(lying(20, 22, 23), 0, 1, 0, 2, 2);
            dueHint(lying(20, 22, 19), 0, 1, 1, NONE, NONE);
        });
        test("3: HINT: by which WAY, the least by which it is as little", () -> {
            dueHint(lying(2, 38, DOWN), 0, 1, 1, 4, 0);
            dueHint(lying(2, 38, DOWN), 0, 1, 0, 4, 4);
            dueHint(lying(11, 13, DOWN), 0, 1, 1, 2, 1);
            dueHint(lying(11, 9, DOWN), 0, 1, 1, 2, 7);
            dueHint(lying(29, 31, DOWN), 0, 1, 1, 2, 3);
        });
        test("3: HINT: NONE (one of both is DOWN, too)", () -> {
            for (int c = 0; c <= 4; c++) {
                for (int cell = 1; cell <= 43; cell += 6) {
                    dueHint(lying(DOWN, cell, DOWN), 0, 1, c, NONE, NONE);
                    dueHint(lying(cell, DOWN, DOWN), 0, 1, c, NONE, NONE);
                }
                dueHint(lying(DOWN, DOWN, 22), 0, 1, c, NONE, NONE);
                dueHint(lying(DOWN, DOWN, DOWN), 0, 1, c, NONE, NONE);
            }
            dueHint(lying(20, 21, DOWN), 0, 1, 0, 1, 2);
            due("hint(0, 1, 5, 0), OUTSIDE all the same", lying(DOWN, 21, 22).hint(0, 1, 5, 0), OUTSIDE);
            due("hint(0, 1, 0, 2), OUTSIDE all the same", lying(20, DOWN, 22).hint(0, 1, 0, 2), OUTSIDE);
            due("hint(1, 1, 0, 0), UNKNOWN all the same", lying(20, DOWN, 22).hint(1, 1, 0, 0), UNKNOWN);
        });
        test("3: HINT: a POCKET takes it", () -> {
            dueHint(lying(3, 5, DOWN), 0, 1, 0, NONE, NONE);
            dueHint(lying(3, 2, DOWN), 0, 1, 0, 1, 6);
        });
        test("3: as things are now, no matter what is said", () -> {
            dueHint(say(lying(20, 22, DOWN), "A21"), 0, 1, 0, 2, 2);
            dueHint(say(lying(20, 22, DOWN), "A2"), 0, 1, 0, 2, 2);
            dueHint(say(lying(20, 22, DOWN), "A^"), 0, 1, 0, 2, 2);
        });
        test("Promise 13: UNKNOWN: the CELL, a POCKET", () -> {
            for (int what = 0; what < 3; what++) {
                int k = what;
                placeBounds("alone's cell, what " + k, 0, (x, cell) -> x.alone(cell, 0, 0, k));
            }
        });
        test("Promise 13: WAYS 0 to 7, OUTSIDE", () ->
            bounds("alone's way", 0, 7, (x, way) -> x.alone(22, way, 5, 0), OUTSIDE));
        test("Promise 13: n 0 to 99999, OUTSIDE; no matter for both, but as told", () -> {
            for (int what = 0; what < 3; what++) {
                int k = what;
                for (int n : new int[] {0, 1, 99998, 99999}) {
                    inside("alone's n, what " + k, n, (x, number) -> x.alone(22, 2, number, k), OUTSIDE);
                }
                for (int n : new int[] {-1, 100000, -2, 100001, LEAST, GREATEST}) {
                    outside("alone's n, what " + k, n, (x, number) -> x.alone(22, 2, number, k), OUTSIDE);
                }
                due("n 0 and 99999", k == 0 ? 0 : new BaizeCorps().alone(22, 2, 0, k)
                    - new BaizeCorps().alone(22, 2, 99999, k), 0);
            }
        });
        test("Promise 13: what 0 to 2, OUTSIDE", () ->
            bounds("alone's what", 0, 2, (x, what) -> x.alone(22, 2, 0, what), OUTSIDE));
        alone();
        strokes();
    }

    private static void alone() {
        test("3: ALONE: where it is behind n steps", () -> {
            BaizeCorps x = new BaizeCorps();
            due("n 0", x.alone(22, 2, 0, 0), 22);
            due("n 1", x.alone(22, 2, 1, 0), 23);
            due("n 4", x.alone(22, 2, 4, 0), 26);
            due("n 5", x.alone(22, 2, 5, 0), 25);
            due("n 15", x.alone(22, 2, 15, 0), 21);
            due("n 16", x.alone(22, 2, 16, 0), 22);
            due("n 17", x.alone(22, 2, 17, 0), 23);
            due("n 99998", x.alone(22, 2, 99998, 0), 20);
            due("n 99999", x.alone(22, 2, 99999, 0), 21);
            due("a column, n 8", x.alone(13, 0, 8, 0), 13);
            due("a column, n 99999", x.alone(13, 0, 99999, 0), 22);
            due("off the last row at once, n 0", x.alone(43, 4, 0, 0), 43);
            due("off the last row at once, n 1", x.alone(43, 4, 1, 0), 34);
        });
        test("3: ALONE: no other one there, no POCKETS", () -> {
            BaizeCorps x = new BaizeCorps();
            due("over 16", x.alone(10, 2, 6, 0), 16);
            due("over 16, on", x.alone(10, 2, 7, 0), 17);
            due("over 4", x.alone(3, 2, 2, 0), 5);
            due("to 8 and back", x.alone(7, 2, 2, 0), 7);
            due("to 8", x.alone(7, 2, 1, 0), 8);
        });
        test("3: ALONE: first on that CELL again, and has come there by that WAY (NONE: never)", () -> {
            BaizeCorps x = new BaizeCorps();
            due("a row", x.alone(22, 2, 0, 1), 16);
            due("a column", x.alone(22, 0, 0, 1), 8);
            due("a slope", x.alone(22, 1, 0, 1), 16);
            due("off the first row", x.alone(2, 0, 0, 1), 8);
            due("off the first row, never", x.alone(2, 4, 0, 1), NONE);
            due("off the last row", x.alone(38, 4, 0, 1), 8);
            due("off the last row, never", x.alone(38, 0, 0, 1), NONE);
            due("off the first column", x.alone(18, 6, 0, 1), 16);
            due("off the first column, never", x.alone(18, 2, 0, 1), NONE);
            due("off the last column", x.alone(26, 2, 0, 1), 16);
            due("off the last column, never", x.alone(26, 6, 0, 1), NONE);
            due("off both", x.alone(10, 7, 0, 1), 16);
            due("along the first row", x.alone(2, 2, 0, 1), 16);
        });
        test("3: ALONE: on how many CELLS it is ever", () -> {
            BaizeCorps x = new BaizeCorps();
            due("a column", x.alone(22, 0, 0, 2), 5);
            due("a row", x.alone(22, 2, 0, 2), 9);
            due("from corner to corner", x.alone(20, 1, 0, 2), 9);
            due("a slope round the table", x.alone(22, 1, 0, 2), 15);
            due("never back by that way", x.alone(26, 6, 0, 2), 9);
        });
    }

    private static void strokes() {
        test("Promise 14: UNKNOWN: both CELLS, a POCKET", () -> {
            placeBounds("strokes' from", 0, (x, from) -> x.strokes(from, 22, 0));
            placeBounds("strokes' to", 0, (x, to) -> x.strokes(22, to, 1));
            for (int pocket : POCKETS) {
                refused("strokes to itself", x -> x.strokes(pocket, pocket, 0), UNKNOWN);
            }
        });
        test("Promise 14: what 0, 1, OUTSIDE", () -> {
            bounds("strokes' what", 0, 1, (x, what) -> x.strokes(1, 43, what), OUTSIDE);
            bounds("strokes' what, to itself", 0, 1, (x, what) -> x.strokes(22, 22, what), OUTSIDE);
        });
        test("3: STROKES: the WAY of the first (NONE: 0)", () -> {
            BaizeCorps x = new BaizeCorps();
            for (int cell = 0; cell <= 44; cell++) {
                if (!isPocket(cell)) {
                    due("strokes(" + cell + ", " + cell + ", 0)", x.strokes(cell, cell, 0), 0);
                    due("strokes(" + cell + ", " + cell + ", 1)", x.strokes(cell, cell, 1), NONE);
                }
            }
        });
        test("3: STROKES: the fewest, by a FORCE up to 9", () -> {
            BaizeCorps x = new BaizeCorps();
            due("a step", x.strokes(22, 23, 0), 1);
            due("a step, by way", x.strokes(22, 23, 1), 2);
            due("the whole row", x.strokes(18, 26, 0), 1);
            due("two", x.strokes(1, 35, 0), 2);
            due("nine steps off a cushion are one", x.strokes(10, 17, 0), 1);
            due("by the plain way", x.strokes(10, 17, 1), 2);
        });
        test("3: STROKES: POCKETS take it, then it can not go on", () -> {
            BaizeCorps x = new BaizeCorps();
            due("up to the pocket", x.strokes(1, 3, 0), 1);
            due("beyond it", x.strokes(1, 5, 0), 2);
            due("beyond it, by way", x.strokes(1, 5, 1), 0);
            due("down the first column", x.strokes(9, 27, 0), 1);
            due("down the first column, by way", x.strokes(9, 27, 1), 4);
        });
        test("3: STROKES: alone", () -> {
            BaizeCorps x = lying(10, 11, 12);
            due("over others", x.strokes(9, 13, 0), 1);
            due("to another's cell", x.strokes(9, 12, 0), 1);
        });
    }

    // ---- 4, promises 15 to 18

    private static void sights() {
        test("Promise 15: CELLS 0 to 44, POCKETS too, UNKNOWN", () ->
            bounds("seen's cell", 0, 44, (x, cell) -> x.seen(0, cell), UNKNOWN));
        test("Promise 15: i 0 to 60, OUTSIDE", () ->
            bounds("seen's step", 0, 60, (x, step) -> x.seen(step, 22), OUTSIDE));
        test("Promise 15: SIGHTS, 8 at most: how many, FULL", () -> {
            BaizeCorps x = new BaizeCorps();
            for (int k = 1; k <= 8; k++) {
                due("seen, the " + k + "-th", x.seen(0, 22), k);
                due("told(4)", x.told(4), k);
            }
            due("seen, the 9-th", x.seen(0, 22), FULL);
            due("seen, the 10-th", x.seen(60, 44), FULL);
            due("told(4)", x.told(4), 8);
            due("sent(-1)", x.sent(-1), 8);
            due("forget()", x.forget(), 8);
            due("seen, room again", x.seen(1, 23), 1);
        });
        test("Promise 16: SIGHTS go: how many there were", () -> {
            BaizeCorps x = new BaizeCorps();
            due("forget() of none", x.forget(), 0);
            x.seen(0, 22);
            due("forget() of one", x.forget(), 1);
            due("told(4)", x.told(4), 0);
            due("sent(-1)", x.sent(-1), 312);
            due("forget() again", x.forget(), 0);
        });
        test("Promise 16: nothing but the SIGHTS goes", () -> {
            BaizeCorps x = setting(PLAIN);
            due("forget()", x.forget(), 2);
            dueTold(x, 7, 8, 3, 20, 22, 24);
            due("told(0)", x.told(0), 5);
            due("restore(0)", x.restore(0), 1);
            due("told(4), as kept", x.told(4), 1);
        });
        test("Promise 17: how many (i = -1), the i-th; NONE (i below -1, too)", () -> {
            BaizeCorps x = new BaizeCorps();
            due("sent(-1)", x.sent(-1), 312);
            due("sent(0)", x.sent(0), 10);
            due("sent(7)", x.sent(7), 17);
            due("sent(8)", x.sent(8), 20);
            due("sent(311)", x.sent(311), 437);
            for (int i : new int[] {312, 313, -2, -3, LEAST, LEAST + 1, GREATEST - 1, GREATEST}) {
                due("sent(" + i + ")", x.sent(i), NONE);
            }
            x.seen(0, 22);
            due("sent(-1), eight ways", x.sent(-1), 8);
            due("sent(0)", x.sent(0), 220);
            due("sent(7)", x.sent(7), 227);
            due("sent(8)", x.sent(8), NONE);
            x.seen(1, 31);
            due("sent(-1), one", x.sent(-1), 1);
            due("sent(0)", x.sent(0), 224);
            due("sent(1)", x.sent(1), NONE);
            due("sent(-2)", x.sent(-2), NONE);
            x.seen(1, 30);
            due("sent(-1), none", x.sent(-1), 0);
            due("sent(0)", x.sent(0), NONE);
        });
        test("4: SIGHTS behind 60 steps", () -> {
            BaizeCorps x = new BaizeCorps();
            x.seen(0, 22);
            x.seen(60, x.alone(22, 3, 60, 0));
            due("told(4)", x.told(4), 2);
            boolean found = false;
            for (int i = 0; i < x.sent(-1); i++) {
                found |= x.sent(i) == 223;
            }
            due("223 is among them", found ? 1 : 0, 1);
            x.forget();
            x.seen(60, 26);
            x.seen(56, 22);
            x.seen(57, 23);
            due("sent(-1) by 56, 57, 60", x.sent(-1), 1);
            due("sent(0), four ahead of the turn", x.sent(0), 226);
        });
        test("4: from CELL c, none a POCKET", () -> {
            BaizeCorps x = new BaizeCorps();
            x.seen(0, 0);
            due("sent(-1)", x.sent(-1), 0);
            x.forget();
            x.seen(1, 44);
            due("sent(-1), a step ahead", x.sent(-1), 3);
            due("sent(0)", x.sent(0), 343);
            due("sent(1)", x.sent(1), 354);
            due("sent(2)", x.sent(2), 432);
        });
        test("Promise 18: what 0, 1, OUTSIDE", () -> {
            bounds("ask", 0, 1, (x, what) -> x.ask(what), OUTSIDE);
            BaizeCorps x = new BaizeCorps();
            x.seen(0, 0);
            due("ask(2), nothing fits", x.ask(2), OUTSIDE);
            due("ask(-1), nothing fits", x.ask(-1), OUTSIDE);
        });
        test("Promise 18: NONE: nothing fits", () -> {
            BaizeCorps x = new BaizeCorps();
            x.seen(0, 0);
            due("ask(0)", x.ask(0), NONE);
            due("ask(1)", x.ask(1), NONE);
        });
        test("4: ASK: fewest of these are left at the most: the least", () -> {
            BaizeCorps x = new BaizeCorps();
            due("ask(0) of all", x.ask(0), 0);
            due("ask(1) of all", x.ask(1), 8);
            x.seen(0, 22);
            due("ask(0) of eight", x.ask(0), 1);
            due("ask(1) of eight", x.ask(1), 1);
            x.seen(1, 23);
            due("ask(0) of one", x.ask(0), 0);
            due("ask(1) of one", x.ask(1), 1);
            x.forget();
            x.seen(0, 1);
            x.seen(1, 9);
            due("ask(0) of two that no step parts", x.ask(0), 0);
            due("ask(1) of two that no step parts", x.ask(1), 2);
        });
    }

    // ---- 4, promises 19 and 20

    private static void dueChalk(int row, int miss, int whether, int move) {
        BaizeCorps x = new BaizeCorps();
        due("chalk(" + row + ", " + miss + ", 0)", x.chalk(row, miss, 0), whether);
        due("chalk(" + row + ", " + miss + ", 1)", x.chalk(row, miss, 1), move);
    }

    private static void dueMatch(int n, int t, int a, int b, int what, long upper, long lower) {
        BaizeCorps x = new BaizeCorps();
        String call = "match(" + n + ", " + t + ", " + a + ", " + b + ", " + what + ", ";
        due(call + "0)", x.match(n, t, a, b, what, 0), upper);
        due(call + "1)", x.match(n, t, a, b, what, 1), lower);
    }

    private static void chalkAndMatches() {
        test("Promise 19: the row 0 to 999, OUTSIDE", () -> {
            for (int what = 0; what < 2; what++) {
                int k = what;
                for (int row = 0; row <= 999; row++) {
                    inside("chalk's row", row, (x, number) -> x.chalk(number, 1, k), OUTSIDE);
                }
                for (int row : new int[] {-1, 1000, -2, 1001, LEAST, LEAST + 1, GREATEST - 1, GREATEST}) {
                    outside("chalk's row", row, (x, number) -> x.chalk(number, 1, k), OUTSIDE);
                }
            }
        });
        test("Promise 19: miss 0, 1, OUTSIDE", () ->
            bounds("chalk's miss", 0, 1, (x, miss) -> x.chalk(123, miss, 0), OUTSIDE));
        test("Promise 19: what 0, 1, OUTSIDE", () ->
            bounds("chalk's what", 0, 1, (x, what) -> x.chalk(123, 1, what), OUTSIDE));
        test("4: three heaps (digits of a row of three, noughts ahead)", () -> {
            dueChalk(9, 0, 1, 29);
            dueChalk(90, 0, 1, 19);
            dueChalk(900, 0, 1, 9);
            dueChalk(11, 0, 0, NONE);
            dueChalk(101, 0, 0, NONE);
            dueChalk(110, 0, 0, NONE);
        });
        test("4: or miss, and not when all are empty; who can not has lost", () -> {
            dueChalk(0, 1, 0, NONE);
            dueChalk(0, 0, 0, NONE);
            dueChalk(1, 0, 1, 21);
            dueChalk(1, 1, 1, 21);
        });
        test("4: once alone in all, by one of both", () -> {
            dueChalk(11, 0, 0, NONE);
            dueChalk(11, 1, 1, 99);
            dueChalk(55, 1, 1, 99);
            dueChalk(12, 1, 0, NONE);
            dueChalk(12, 0, 1, 21);
        });
        test("4: 1 at least; the least; 99 to miss", () -> {
            dueChalk(111, 0, 1, 1);
            dueChalk(111, 1, 0, NONE);
            dueChalk(123, 1, 1, 23);
            dueChalk(123, 0, 0, NONE);
            dueChalk(999, 0, 1, 9);
            dueChalk(999, 1, 1, 8);
        });
        test("Promise 20: n 1 to 8, OUTSIDE", () ->
            bounds("match's n", 1, 8, (x, n) -> x.match(n, 5, 0, 0, 0, 0), GONE + OUTSIDE));
        test("Promise 20: t 0 to 10, OUTSIDE", () ->
            bounds("match's t", 0, 10, (x, t) -> x.match(8, t, 0, 0, 1, 0), GONE + OUTSIDE));
        test("Promise 20: a and b 0 to n less 1, OUTSIDE", () -> {
            for (int games = 1; games <= 8; games++) {
                int n = games;
                bounds("match's a, n " + n, 0, n - 1, (x, a) -> x.match(n, 5, a, 0, 0, 0), GONE + OUTSIDE);
                bounds("match's b, n " + n, 0, n - 1, (x, b) -> x.match(n, 5, 0, b, 1, 1), GONE + OUTSIDE);
            }
        });
        test("Promise 20: what 0, 1, OUTSIDE", () ->
            bounds("match's what", 0, 1, (x, what) -> x.match(2, 5, 1, 1, what, 0), GONE + OUTSIDE));
        test("4: MATCH: t tenths, none to ten", () -> {
            dueMatch(8, 0, 0, 0, 0, 0, 1);
            dueMatch(8, 0, 7, 7, 0, 0, 1);
            dueMatch(8, 10, 0, 7, 0, 1, 1);
            dueMatch(8, 10, 0, 0, 0, 1, 1);
            dueMatch(8, 0, 0, 0, 1, 8, 1);
            dueMatch(8, 10, 0, 0, 1, 8, 1);
            dueMatch(8, 0, 0, 7, 1, 1, 1);
            dueMatch(8, 10, 0, 7, 1, 8, 1);
        });
        test("4: MATCH: one game is left, none was played", () -> {
            for (int t = 1; t <= 9; t++) {
                int common = t == 5 ? 5 : t % 2 == 0 ? 2 : 1;
                dueMatch(1, t, 0, 0, 0, t / common, 10 / common);
                dueMatch(8, t, 7, 7, 0, t / common, 10 / common);
                dueMatch(8, t, 7, 7, 1, 1, 1);
            }
            dueMatch(8, 5, 0, 0, 0, 1, 2);
            dueMatch(8, 5, 0, 0, 1, 26333, 2048);
            dueMatch(8, 9, 0, 7, 0, 43046721, 100000000);
            dueMatch(8, 9, 7, 0, 0, 99999999, 100000000);
            dueMatch(8, 1, 0, 7, 0, 1, 100000000);
        });
    }

    // ---- 4, promises 21 to 24

    private static void dueSeason(BaizeCorps x, int seed, int m, int points, int fouls, int down) {
        String call = "season(" + seed + ", " + m + ", ";
        due(call + "0)", x.season(seed, m, 0), points);
        due(call + "1)", x.season(seed, m, 1), fouls);
        due(call + "2)", x.season(seed, m, 2), down);
    }

    private static void seasonsAndImages() {
        test("Promise 21: seeds 0 to 9999, OUTSIDE", () -> {
            for (int seed : new int[] {0, 1, 9998, 9999}) {
                inside("season's seed", seed, (x, number) -> x.season(number, 1, 2), OUTSIDE);
            }
            for (int seed : new int[] {-1, 10000, -2, 10001, LEAST, LEAST + 1, GREATEST - 1, GREATEST}) {
                outside("season's seed", seed, (x, number) -> x.season(number, 1, 2), OUTSIDE);
            }
        });
        test("Promise 21: 1 to 99 ACTS, OUTSIDE", () ->
            bounds("season's m", 1, 99, (x, m) -> x.season(7, m, 0), OUTSIDE));
        test("Promise 21: what 0 to 2, OUTSIDE", () ->
            bounds("season's what", 0, 2, (x, what) -> x.season(7, 9, what), OUTSIDE));
        test("4: A SEASON of m ACTS, one and two", () -> {
            // C by way 3 and force 1, then C by way 2 and force 3
            dueSeason(lying(26, 10, 13), 0, 1, 0, 0, 0);
            dueSeason(lying(26, 10, 13), 0, 2, 0, 1, 0);
            dueSeason(lying(25, 26, 13), 0, 2, 2, 1, 0);
        });
        test("4: A SEASON: 0 to 4 a STROKE, the first seeds", () -> {
            dueSeason(lying(20, 22, 34), 0, 1, 0, 1, 1);
            dueSeason(lying(20, 22, 1), 1, 1, 0, 1, 1);
            dueSeason(lying(20, 22, 24), 2, 1, 0, 1, 1);
            dueSeason(lying(20, 22, 18), 3, 1, 0, 1, 1);
            dueSeason(lying(21, 22, 20), 4, 1, 0, 1, 1);
        });
        test("4: A SEASON: 5 it is brought up", () -> {
            // C is brought up, then goes by way 6 and force 5
            dueSeason(lying(DOWN, 20, DOWN), 5, 1, 0, 0, 1);
            dueSeason(lying(DOWN, 20, DOWN), 5, 2, 0, 1, 1);
            dueSeason(lying(DOWN, 24, DOWN), 5, 1, 0, 0, 2);
            dueSeason(lying(DOWN, 20, 5), 5, 1, 0, 0, 1);
            dueSeason(lying(DOWN, 20, 5), 5, 2, 0, 1, 2);
        });
        test("4: A SEASON: 6 nap", () -> {
            // then C by way 0 and force 8: from 14 to no pocket, from 13 to 4
            dueSeason(lying(27, 9, 14), 6, 1, 0, 0, 0);
            dueSeason(lying(27, 9, 14), 6, 2, 0, 1, 1);
            dueSeason(lying(27, 9, 13), 6, 2, 0, 0, 0);
        });
        test("4: A SEASON: 7 an evening", () -> {
            // as a stroke it would be by way 0; two evenings, nap, A by way 7 and force 2
            dueSeason(lying(20, 22, 13), 7, 1, 0, 0, 0);
            dueSeason(lying(20, 22, DOWN), 7, 1, 0, 0, 1);
            dueSeason(lying(21, DOWN, DOWN), 7, 3, 0, 0, 2);
            dueSeason(lying(21, DOWN, DOWN), 7, 4, 0, 1, 3);
            BaizeCorps x = evening(99);
            x.ball(0, 21);
            x.ball(1, DOWN);
            x.ball(2, DOWN);
            dueSeason(x, 7, 4, 0, 1, 3);
        });
        test("4: A SEASON by the seed 9999", () -> {
            // B by way 4 and force 8: C comes back to B by the eighth step
            dueSeason(lying(20, 27, 24), 9999, 1, 0, 1, 1);
            dueSeason(lying(DOWN, 2, 11), 9999, 1, 2, 1, 1);
            dueSeason(lying(DOWN, 11, 20), 9999, 1, 2, 1, 1);
        });
        test("4: A SEASON: each if that can be", () -> {
            dueSeason(lying(20, 22, DOWN), 0, 1, 0, 0, 1);
            dueSeason(lying(20, DOWN, 24), 9999, 1, 0, 0, 1);
            dueSeason(lying(DOWN, DOWN, DOWN), 0, 1, 0, 0, 3);
        });
        test("4: A SEASON: from all as it is; nothing is DONE in fact", () -> {
            BaizeCorps x = lying(26, 10, 13);
            x.score(99, 99);
            say(x, "D");
            dueSeason(x, 0, 2, 99, 100, 0);
            dueTold(x, 99, 99, 0, 26, 10, 13);
            due("told(0)", x.told(0), 1);
            dueSeason(x, 0, 2, 99, 100, 0);
        });
        test("Promise 22: IMAGES 0, 1, OUTSIDE", () -> bounds("image", 0, 1, (x, k) -> x.image(k), OUTSIDE));
        test("Promise 23: IMAGES 0, 1, OUTSIDE", () -> bounds("restore", 0, 1, (x, k) -> x.restore(k), OUTSIDE));
        test("Promise 23: STATE: it was not", () -> {
            for (int k = 0; k < 2; k++) {
                BaizeCorps x = new BaizeCorps();
                due("restore(0)", x.restore(0), STATE);
                due("restore(1)", x.restore(1), STATE);
                due("image(" + k + ")", x.image(k), 1);
                due("restore(" + k + ")", x.restore(k), 1);
                due("restore(" + (1 - k) + ")", x.restore(1 - k), STATE);
            }
        });
        images();
        told();
    }

    private static void images() {
        test("Promise 22: kept anew, each on its own", () -> {
            BaizeCorps x = new BaizeCorps();
            x.score(1, 0);
            x.image(0);
            x.score(2, 0);
            x.image(1);
            x.score(3, 0);
            x.image(0);
            x.score(4, 0);
            x.restore(1);
            due("told(1) of image 1", x.told(1), 2);
            x.restore(0);
            due("told(1) of image 0", x.told(1), 3);
            x.restore(1);
            due("told(1) of image 1, again", x.told(1), 2);
        });
        test("Promise 22: all but the PAD is kept", () -> {
            BaizeCorps x = setting(ALL_FULL);
            due("image(0)", x.image(0), 1);
            BaizeCorps before = setting(ALL_FULL);
            x.ball(0, DOWN);
            x.ball(1, 43);
            x.ball(2, 1);
            x.score(0, 99);
            x.forget();
            x.seen(1, 1);
            x.wipe();
            say(x, ".~").done();
            say(x, "A");
            due("restore(0)", x.restore(0), 1);
            for (int what : new int[] {1, 2, 3, 4, 10, 11, 12}) {
                due("told(" + what + ")", x.told(what), before.told(what));
            }
            due("told(0), the pad is as it was left", x.told(0), 1);
            due("fault()", x.fault(), 1);
            due("seen, as full as it was", x.seen(0, 0), FULL);
            due("sent(-1)", x.sent(-1), before.sent(-1));
        });
        test("Promise 22: none DOWN, all DOWN, no SIGHTS, evening 99", () -> {
            BaizeCorps x = evening(99);
            x.image(0);
            for (int ball = 0; ball < 3; ball++) {
                x.ball(ball, DOWN);
            }
            x.seen(0, 22);
            x.image(1);
            x.restore(0);
            dueTold(x, 0, 0, 99, 10, 16, 24);
            due("told(4)", x.told(4), 0);
            due("no evening more", say(x, ".").judge(1), 3);
            x.restore(1);
            dueTold(x, 0, 0, 99, NONE, NONE, NONE);
            due("told(4)", x.told(4), 1);
        });
        test("Promise 22: one SIGHT is kept, the first", () -> {
            BaizeCorps x = new BaizeCorps();
            x.seen(17, 23);
            x.image(1);
            x.forget();
            x.seen(0, 41);
            x.seen(1, 42);
            x.restore(1);
            due("told(4)", x.told(4), 1);
            due("sent(-1)", x.sent(-1), 8);
            due("seen(16, 22)", x.seen(16, 22), 2);
            due("sent(0)", x.sent(0), 222);
        });
        test("Promise 23: what comes behind the IMAGE is not in it", () -> {
            BaizeCorps x = new BaizeCorps();
            x.image(0);
            x.ball(0, 20);
            x.seen(0, 22);
            x.restore(0);
            x.ball(0, 21);
            x.seen(0, 23);
            x.restore(0);
            dueTold(x, 0, 0, 0, 10, 16, 24);
            due("told(4)", x.told(4), 0);
        });
    }

    private static void told() {
        test("Promise 24: 0 to 4, 10 and a BALL, OUTSIDE", () -> {
            for (int what = 0; what <= 4; what++) {
                inside("told", what, (x, number) -> x.told(number), OUTSIDE);
            }
            for (int what = 10; what <= 12; what++) {
                inside("told", what, (x, number) -> x.told(number), OUTSIDE);
            }
            for (int what : new int[] {-1, 5, 6, 7, 8, 9, 13, 14, -2, 20, 100, LEAST, LEAST + 1, LEAST + 10,
                    GREATEST - 1, GREATEST}) {
                outside("told", what, (x, number) -> x.told(number), OUTSIDE);
            }
        });
        test("Promise 24: its CELL (NONE)", () -> {
            BaizeCorps x = lying(1, DOWN, 43);
            due("told(10)", x.told(10), 1);
            due("told(11)", x.told(11), NONE);
            due("told(12)", x.told(12), 43);
        });
        test("Promise 24: full", () -> {
            BaizeCorps x = setting(ALL_FULL);
            due("told(0)", x.told(0), 60);
            due("told(1)", x.told(1), 7);
            due("told(2)", x.told(2), 8);
            due("told(3)", x.told(3), 3);
            due("told(4)", x.told(4), 8);
            due("told(3), evening 99", evening(99).told(3), 99);
        });
    }
}
