/** Each promise of ../shared/DOC.md by cases worked out by hand: ordinary, at the edges, wrong. */
public final class PromiseTests {
    private static final int UNKNOWN = -1, OUTSIDE = -2, STATE = -3, FULL = -4, NO = -5, NONE = -6;
    private static final int DOWN = -1;
    private static final int[] POCKETS = {0, 4, 8, 36, 40, 44};
    private static final int[] FAR = {Integer.MIN_VALUE, -100, -2, 1000000, Integer.MAX_VALUE};

    private static int wrong = 0;
    private static String promise = "";

    public static void main(String[] args) {
        constants();
        newObject();
        ball();
        score();
        say();
        wipe();
        fault();
        judge();
        behindAlone();
        behindTouched();
        behindNap();
        table();
        points();
        fouls();
        candour();
        done();
        hint();
        alone();
        strokes();
        seen();
        forget();
        sent();
        ask();
        chalk();
        match();
        season();
        image();
        restore();
        told();
        System.out.println(wrong == 0 ? "all answers are as due" : wrong + " answers are not as due");
        if (wrong != 0) {
            System.exit(1);
        }
    }

    private static void due(String call, long got, long want) {
        if (got != want) {
            wrong++;
            System.out.println(promise + ": " + call + " answered " + got + ", due is " + want);
        }
    }

    /** A new object with the three on these cells. */
    private static BaizeCorps lying(int a, int b, int c) {
        BaizeCorps x = new BaizeCorps();
        for (int ball = 0; ball < 3; ball++) {
            x.ball(ball, DOWN);
        }
        x.ball(0, a);
        x.ball(1, b);
        x.ball(2, c);
        return x;
    }

    private static BaizeCorps say(BaizeCorps x, String text) {
        for (int i = 0; i < text.length(); i++) {
            x.say(text.charAt(i));
        }
        return x;
    }

    private static BaizeCorps text(BaizeCorps x, String text) {
        x.wipe();
        return say(x, text);
    }

    private static void dueCells(String call, BaizeCorps x, int a, int b, int c) {
        due(call + " behind(0)", x.behind(0), a);
        due(call + " behind(1)", x.behind(1), b);
        due(call + " behind(2)", x.behind(2), c);
    }

    private static void constants() {
        promise = "constants";
        due("UNKNOWN", BaizeCorps.UNKNOWN, -1);
        due("OUTSIDE", BaizeCorps.OUTSIDE, -2);
        due("STATE", BaizeCorps.STATE, -3);
        due("FULL", BaizeCorps.FULL, -4);
        due("NO", BaizeCorps.NO, -5);
        due("NONE", BaizeCorps.NONE, -6);
        due("GONE", BaizeCorps.GONE, -1000000000000000000L);
    }

    private static void newObject() {
        promise = "1 a new object";
        BaizeCorps x = new BaizeCorps();
        due("told(10)", x.told(10), 10);
        due("told(11)", x.told(11), 16);
        due("told(12)", x.told(12), 24);
        for (int what = 0; what <= 4; what++) {
            due("told(" + what + ")", x.told(what), 0);
        }
        due("fault()", x.fault(), NONE);
        due("sent(-1)", x.sent(-1), 312);
        due("restore(0)", x.restore(0), STATE);
        due("restore(1)", x.restore(1), STATE);
    }

    private static void ball() {
        promise = "2 ball";
        BaizeCorps x = new BaizeCorps();
        due("ball(0, 43)", x.ball(0, 43), 10);
        due("ball(0, 1)", x.ball(0, 1), 43);
        due("ball(0, 1) again", x.ball(0, 1), 1);
        due("ball(1, 1)", x.ball(1, 1), STATE);
        due("told(11)", x.told(11), 16);
        due("ball(0, -1)", x.ball(0, -1), 1);
        due("ball(0, -1), down already", x.ball(0, -1), NONE);
        due("ball(1, -1), two down", x.ball(1, -1), 16);
        due("ball(1, 1), left free", x.ball(1, 1), NONE);
        due("ball(0, 1), from below", x.ball(0, 1), STATE);
        due("ball(0, 10)", x.ball(0, 10), NONE);
        for (int pocket : POCKETS) {
            due("ball(0, " + pocket + ")", x.ball(0, pocket), UNKNOWN);
        }
        for (int odd : FAR) {
            due("ball(0, " + odd + ")", x.ball(0, odd), UNKNOWN);
            due("ball(" + odd + ", 20)", x.ball(odd, 20), UNKNOWN);
        }
        due("ball(0, 45)", x.ball(0, 45), UNKNOWN);
        due("ball(3, 20)", x.ball(3, 20), UNKNOWN);
        due("ball(-1, 20)", x.ball(-1, 20), UNKNOWN);
        due("ball(3, 1), UNKNOWN first", x.ball(3, 1), UNKNOWN);
        due("told(10), nothing changed", x.told(10), 10);
    }

    private static void score() {
        promise = "3 score";
        BaizeCorps x = new BaizeCorps();
        due("score(99, 98)", x.score(99, 98), 0);
        due("score(0, 7)", x.score(0, 7), 9998);
        due("score(100, 0)", x.score(100, 0), OUTSIDE);
        due("score(0, 100)", x.score(0, 100), OUTSIDE);
        due("score(-1, 0)", x.score(-1, 0), OUTSIDE);
        due("score(0, -1)", x.score(0, -1), OUTSIDE);
        for (int odd : FAR) {
            due("score(" + odd + ", 0)", x.score(odd, 0), OUTSIDE);
            due("score(0, " + odd + ")", x.score(0, odd), OUTSIDE);
        }
        due("score(0, 0)", x.score(0, 0), 7);
        x = lying(2, 3, DOWN);
        x.score(99, 99);
        text(x, "A22").done();
        due("score(1, 1) behind 102 and 100", x.score(1, 1), 10300);
        due("score(0, 0)", x.score(0, 0), 101);
    }

    private static void say() {
        promise = "4 say";
        BaizeCorps x = new BaizeCorps();
        due("say(32)", x.say(32), OUTSIDE);
        due("say(127)", x.say(127), OUTSIDE);
        due("say(33)", x.say(33), 1);
        due("say(126)", x.say(126), 2);
        for (int k = 3; k <= 60; k++) {
            due("say, the " + k + "-th", x.say('.'), k);
        }
        due("say, a full pad", x.say('.'), FULL);
        due("say(127), OUTSIDE first", x.say(127), OUTSIDE);
        for (int odd : FAR) {
            due("say(" + odd + ")", x.say(odd), OUTSIDE);
        }
        due("told(0)", x.told(0), 60);
    }

    private static void wipe() {
        promise = "5 wipe";
        BaizeCorps x = say(new BaizeCorps(), "A~.");
        due("wipe()", x.wipe(), 3);
        due("wipe() again", x.wipe(), 0);
        due("fault()", x.fault(), NONE);
        due("say", x.say('.'), 1);
        due("fault() of the new text", x.fault(), NONE);
        for (int k = 2; k <= 60; k++) {
            x.say('.');
        }
        due("wipe() of a full one", x.wipe(), 60);
    }

    private static void dueFault(String text, int want) {
        due("fault() of '" + text + "'", say(new BaizeCorps(), text).fault(), want);
    }

    private static void fault() {
        promise = "6 fault";
        dueFault("", NONE);
        dueFault("A01", NONE);
        dueFault("B49", NONE);
        dueFault("C75A^~.", NONE);
        dueFault("~~..~", NONE);
        dueFault("@", 0);
        dueFault("D", 0);
        dueFault("a", 0);
        dueFault("0", 0);
        dueFault("^", 0);
        dueFault("!", 0);
        dueFault("/", 0);
        dueFault("}", 0);
        dueFault("-", 0);
        dueFault("A", 1);
        dueFault("AA", 1);
        dueFault("A8", 1);
        dueFault("A/", 1);
        dueFault("A~", 1);
        dueFault("A.", 1);
        dueFault("A]", 1);
        dueFault("A_", 1);
        dueFault("A7", 2);
        dueFault("A70", 2);
        dueFault("A7:", 2);
        dueFault("A7^", 2);
        dueFault("A7A", 2);
        dueFault("A79", NONE);
        dueFault("A799", 3);
        dueFault("A^5", 2);
        dueFault("A^A", 3);
        dueFault("A^A^", NONE);
        dueFault(".~A11B", 6);
        dueFault(".~A11B1", 7);
        dueFault("D^A", 0);
        dueFault("A1", 2);
        BaizeCorps x = say(new BaizeCorps(), ".");
        for (int k = 2; k <= 60; k++) {
            x.say(k == 60 ? 'A' : '.');
        }
        due("fault(), more must come of a full pad", x.fault(), 60);
    }

    private static void judge() {
        promise = "7 judge";
        BaizeCorps x = new BaizeCorps();
        due("judge(0) of none", x.judge(0), NONE);
        due("judge(1) of none", x.judge(1), NONE);
        due("judge(2) of none", x.judge(2), 0);
        due("judge(-1)", x.judge(-1), OUTSIDE);
        due("judge(3)", x.judge(3), OUTSIDE);
        x.say('A');
        for (int what = 0; what <= 2; what++) {
            due("judge(" + what + ") with a fault", x.judge(what), NO);
        }
        due("judge(3), OUTSIDE first", x.judge(3), OUTSIDE);
        due("judge(-1), OUTSIDE first", x.judge(-1), OUTSIDE);
        for (int odd : FAR) {
            due("judge(" + odd + ")", x.judge(odd), OUTSIDE);
        }

        x = lying(20, DOWN, 16);
        dueJudged(text(x, "~.B11A^"), 2, 1, STATE);
        dueJudged(text(x, "A^"), 0, 1, STATE);
        dueJudged(text(x, "A21B^"), 1, 2, STATE);
        dueJudged(text(x, "A21~B^"), NONE, NONE, 0);
        x = lying(20, 22, 24);
        dueJudged(text(x, "A25A22"), NONE, NONE, 3);
        dueJudged(text(x, "A25A22D"), NO, NO, NO);
        x = lying(20, DOWN, DOWN);
        dueJudged(text(x, "B^C^"), NONE, NONE, 0);
        dueJudged(text(x, "B^B^"), 1, 1, STATE);
        x = evenings(98);
        dueJudged(text(x, "."), NONE, NONE, 0);
        dueJudged(text(x, ".."), 1, 3, STATE);
        dueJudged(text(x, "..A^"), 1, 3, STATE);
        dueJudged(text(x, ".A^."), 1, 1, STATE);
    }

    private static void dueJudged(BaizeCorps x, int act, int why, int touched) {
        due("judge(0)", x.judge(0), act);
        due("judge(1)", x.judge(1), why);
        due("judge(2)", x.judge(2), touched);
        int refusal = touched < 0 ? touched : 0;
        due("behind(0), refused or not", Math.min(0, x.behind(0)), refusal);
        due("table(0), refused or not", Math.min(0, x.table(0)), refusal);
        due("candour(1), refused or not", Math.min(0, x.candour(1)), refusal);
        if (refusal != 0) {
            due("candour(0), refused", x.candour(0), refusal);
            due("done(), refused", x.done(), refusal);
        }
    }

    private static BaizeCorps evenings(int count) {
        BaizeCorps x = new BaizeCorps();
        for (int evening = 0; evening < count; evening++) {
            x.say('.');
            x.done();
        }
        return x;
    }

    private static void dueWay(int from, String text, int cell, int cushions) {
        BaizeCorps x = say(lying(from, DOWN, DOWN), text);
        due(from + " " + text + " behind(0)", x.behind(0), cell);
        due(from + " " + text + " candour(1)", x.candour(1), cushions);
    }

    private static void behindAlone() {
        promise = "8 behind, one ball";
        dueWay(20, "A01", 11, 0);
        dueWay(20, "A11", 12, 0);
        dueWay(20, "A21", 21, 0);
        dueWay(20, "A31", 30, 0);
        dueWay(20, "A41", 29, 0);
        dueWay(20, "A51", 28, 0);
        dueWay(20, "A61", 19, 0);
        dueWay(20, "A71", 10, 0);
        dueWay(20, "A03", 11, 1);
        dueWay(20, "A02", 2, 0);
        dueWay(20, "A09", 11, 2);
        dueWay(18, "A29", 25, 1);
        dueWay(18, "A69", 25, 2);
        dueWay(19, "A35", 15, 1);
        dueWay(9, "A55", 23, 2);
        dueWay(1, "A11", 11, 1);
        dueWay(43, "A31", 35, 1);
        dueWay(20, "A12", NONE, 0);
        dueWay(20, "A19", NONE, 0);
        dueWay(10, "A71", NONE, 0);
        dueWay(34, "A31", NONE, 0);
        dueWay(1, "A61", NONE, 0);
        dueWay(5, "A61", NONE, 0);
        dueWay(9, "A41A41A41", NONE, 0);
        dueWay(9, "A43", NONE, 0);
        dueWay(10, "A71A^", 10, 0);
        BaizeCorps x = new BaizeCorps();
        due("behind(-1)", x.behind(-1), UNKNOWN);
        due("behind(3)", x.behind(3), UNKNOWN);
        x.say('A');
        due("behind(0) with a fault", x.behind(0), NO);
        due("behind(3), UNKNOWN first", x.behind(3), UNKNOWN);
        due("told(10), as it is", x.told(10), 10);
    }

    private static void behindTouched() {
        promise = "8 behind, more than one";
        BaizeCorps x = lying(20, 22, 24);
        dueCells("A21", text(x, "A21"), 21, 22, 24);
        dueCells("A22", text(x, "A22"), 21, 22, 24);
        dueCells("A23", text(x, "A23"), 21, 23, 24);
        dueCells("A24", text(x, "A24"), 21, 23, 24);
        dueCells("A25", text(x, "A25"), 21, 23, 25);
        dueCells("A28", text(x, "A28"), 21, 23, 24);
        // it comes back off the cushion, and sends back the one that had sent it
        dueCells("back", say(lying(23, 25, DOWN), "A29"), 20, 25, NONE);
        // it is touched by the way it came to be turned to
        dueCells("turned", say(lying(1, 9, DOWN), "A72"), 1, 19, NONE);
        dueCells("cushion", say(lying(11, 2, DOWN), "A03"), 20, 2, NONE);
        // it goes on from where it lay, and all lies still behind a pocket
        dueCells("down", say(lying(2, 3, 5), "A29"), 2, NONE, 5);
        dueCells("brought", say(lying(2, 3, 5), "A29B^"), 2, 16, 5);
        dueCells("three in a row", say(lying(5, 6, 7), "A23"), 5, 6, NONE);
    }

    private static void behindNap() {
        promise = "8 behind, nap";
        dueCells("~", say(new BaizeCorps(), "~"), 9, 15, 23);
        dueCells("~~~", say(new BaizeCorps(), "~~~"), 9, 13, 21);
        // the lesser column goes first and so makes room, but not from the edge
        dueCells("a chain", say(lying(22, 21, 20), "~"), 21, 20, 19);
        dueCells("a chain at the edge", say(lying(20, 19, 18), "~"), 20, 19, 18);
        dueCells("pockets", say(lying(1, 5, 41), "~"), 1, 5, 41);
        dueCells("behind a pocket's neighbour", say(lying(2, 1, DOWN), "~"), 2, 1, NONE);
        dueCells("one column", say(lying(11, 20, 29), "~"), 10, 19, 28);
        dueCells("all down", say(lying(DOWN, DOWN, DOWN), "~"), NONE, NONE, NONE);
    }

    private static void dueTable(String text, BaizeCorps x, int points, int fouls, int down, int evening) {
        due(text + " table(0)", x.table(0), points);
        due(text + " table(1)", x.table(1), fouls);
        due(text + " table(2)", x.table(2), down);
        due(text + " table(3)", x.table(3), evening);
    }

    private static void table() {
        promise = "9 table";
        BaizeCorps x = new BaizeCorps();
        dueTable("of none", x, 0, 0, 0, 0);
        x.score(7, 9);
        dueTable("as it is", x, 7, 9, 0, 0);
        dueTable("evenings", text(x, "..."), 7, 9, 0, 3);
        dueTable("all down", say(lying(1, 5, 37), "A61B61C61"), 0, 3, 3, 0);
        dueTable("brought up", say(lying(DOWN, DOWN, 20), "A^"), 0, 0, 1, 0);
        due("table(-1)", x.table(-1), OUTSIDE);
        due("table(4)", x.table(4), OUTSIDE);
        x.say('A');
        due("table(0) with a fault", x.table(0), NO);
        due("table(4), OUTSIDE first", x.table(4), OUTSIDE);
        x.say('^');
        due("table(3), an act can not be", x.table(3), STATE);
        due("table(4), OUTSIDE first", x.table(4), OUTSIDE);
        due("told(3), nothing is done", x.told(3), 0);
        x = say(evenings(98), ".");
        dueTable("the last evening", x, 0, 0, 0, 99);
    }

    private static void points() {
        promise = "9 points";
        due("one is touched", say(lying(20, 21, DOWN), "A21").table(0), 0);
        due("two are touched", say(lying(20, 21, 22), "A22").table(0), 2);
        due("the third is touched a second time", say(lying(20, 22, 24), "A29").table(0), 2);
        due("one is touched twice", say(lying(23, 24, 26), "A29").table(0), 2);
        due("both, there and back", say(lying(23, 25, DOWN), "A25").table(0), 2);
        due("a touched one is down", say(lying(2, 3, DOWN), "A22").table(0), 3);
        due("two, and the last is down", say(lying(5, 6, 7), "A23").table(0), 5);
        due("who was sent is down", say(lying(3, DOWN, DOWN), "A21").table(0), 0);
        due("strokes add up", say(lying(2, 3, 5), "A22C61").table(0), 3);
        due("touches of two strokes do not", say(lying(20, 21, DOWN), "A21A21").table(0), 0);
        due("two strokes, 2 and 3", say(lying(2, 3, 20), "A22B^").table(0), 3);
    }

    private static void fouls() {
        promise = "9 fouls";
        due("who was sent is down", say(lying(3, DOWN, DOWN), "A21").table(1), 1);
        due("touched, no cushion", say(lying(20, 21, DOWN), "A21").table(1), 1);
        due("a cushion behind the touch", say(lying(23, 25, DOWN), "A29").table(1), 1);
        due("touched off a cushion", say(lying(20, 22, DOWN), "A66").table(1), 0);
        due("not come so far", say(lying(20, 22, DOWN), "A65").table(1), 0);
        due("a cushion at that step", say(lying(1, 9, DOWN), "A71").table(1), 0);
        due("the same by the plain way", say(lying(1, 9, DOWN), "A51").table(1), 1);
        due("a touched one is down", say(lying(2, 3, DOWN), "A22").table(1), 1);
        due("the cushion of a stroke before", say(lying(18, 20, DOWN), "A61A21").table(1), 1);
    }

    private static void candour() {
        promise = "10 candour";
        BaizeCorps x = new BaizeCorps();
        due("candour(0) of none", x.candour(0), NONE);
        due("candour(1) of none", x.candour(1), 0);
        x = lying(20, 22, DOWN);
        x.score(0, 50);
        due("candour(0) without a foul", text(x, "A66").candour(0), NONE);
        due("candour(1) there", x.candour(1), 1);
        due("candour(0), two miss", text(x, "~.A09A21A21").candour(0), NONE);
        x = lying(20, 22, DOWN);
        due("candour(0), the third act", text(x, ".A21A21A21").candour(0), 2);
        due("candour(0), the first act", text(x, "A22A22").candour(0), 0);
        due("candour(1), more than one", text(x, "A09B29").candour(1), 3);
        due("candour(1), of the touched one too", say(lying(23, 25, DOWN), "A29").candour(1), 1);
        due("candour(-1)", x.candour(-1), OUTSIDE);
        due("candour(2)", x.candour(2), OUTSIDE);
        text(x, "A");
        due("candour(0) with a fault", x.candour(0), NO);
        due("candour(2), OUTSIDE first", x.candour(2), OUTSIDE);
        text(x, "A^");
        due("candour(0), an act can not be", x.candour(0), STATE);
        due("candour(1), an act can not be", x.candour(1), STATE);
        due("candour(2), OUTSIDE first", x.candour(2), OUTSIDE);
    }

    private static void done() {
        promise = "11 done";
        BaizeCorps x = lying(20, 22, 2);
        x.score(10, 20);
        due("done() of none", x.done(), 0);
        due("done()", text(x, "A22C22.~").done(), 4);
        due("told(0)", x.told(0), 0);
        due("told(1)", x.told(1), 10);
        due("told(2)", x.told(2), 22);
        due("told(3)", x.told(3), 1);
        due("told(10)", x.told(10), 20);
        due("told(11)", x.told(11), 21);
        due("told(12)", x.told(12), NONE);
        due("done() again", x.done(), 0);
        say(x, "C^B^");
        due("done(), an act can not be", x.done(), STATE);
        due("told(0), it stays", x.told(0), 4);
        due("told(12), nothing is done", x.told(12), NONE);
        x.say('A');
        due("done() with a fault", x.done(), NO);
        due("told(0), it stays", x.told(0), 5);
        due("sights stay", x.seen(1, 10) + text(x, ".").done() + x.told(4), 3);
    }

    private static void dueHint(BaizeCorps x, int ball, int other, int c, int force, int way) {
        String call = "hint(" + ball + ", " + other + ", " + c + ", ";
        due(call + "0)", x.hint(ball, other, c, 0), force);
        due(call + "1)", x.hint(ball, other, c, 1), way);
    }

    private static void hint() {
        promise = "12 hint";
        BaizeCorps x = lying(20, 22, DOWN);
        dueHint(x, 0, 1, 0, 2, 2);
        dueHint(x, 0, 1, 1, 6, 6);
        dueHint(x, 0, 1, 2, NONE, NONE);
        dueHint(x, 0, 2, 0, NONE, NONE);
        dueHint(x, 2, 0, 0, NONE, NONE);
        dueHint(x, 1, 0, 0, 2, 6);
        x.ball(2, 21);
        dueHint(x, 0, 1, 0, NONE, NONE);
        dueHint(x, 0, 2, 0, 1, 2);
        // a cushion at the step by which it is touched is ahead of it
        x = lying(1, 9, DOWN);
        dueHint(x, 0, 1, 0, 1, 5);
        dueHint(x, 0, 1, 1, 1, 7);
        // the least of the ways that are as little, and ones that lead through pockets left out
        x = lying(2, 38, DOWN);
        dueHint(x, 0, 1, 0, 4, 4);
        dueHint(x, 0, 1, 1, 4, 0);
        x = lying(19, 26, DOWN);
        dueHint(x, 0, 1, 0, 7, 2);
        dueHint(x, 0, 1, 1, 9, 6);
        dueHint(lying(18, 26, DOWN), 0, 1, 0, 8, 2);
        dueHint(lying(18, 26, DOWN), 0, 1, 1, 8, 6);
        dueHint(lying(18, 26, DOWN), 0, 1, 2, 8, 1);
        dueHint(lying(19, 26, DOWN), 0, 1, 1, 9, 6);
        dueHint(lying(20, 26, DOWN), 0, 1, 1, NONE, NONE);
        dueHint(lying(3, 5, DOWN), 0, 1, 0, NONE, NONE);
        dueHint(lying(DOWN, 9, DOWN), 0, 1, 0, NONE, NONE);
        dueHint(lying(DOWN, 9, DOWN), 1, 0, 0, NONE, NONE);
        dueHint(lying(1, 15, DOWN), 0, 1, 3, 7, 7);
        dueHint(lying(1, 15, DOWN), 0, 1, 4, 9, 1);
        x = lying(20, 22, DOWN);
        text(x, "B21");
        dueHint(x, 0, 1, 0, 2, 2);
        due("hint(0, 0, 0, 0)", x.hint(0, 0, 0, 0), UNKNOWN);
        due("hint(2, 2, 0, 0)", x.hint(2, 2, 0, 0), UNKNOWN);
        due("hint(-1, 0, 0, 0)", x.hint(-1, 0, 0, 0), UNKNOWN);
        due("hint(0, -1, 0, 0)", x.hint(0, -1, 0, 0), UNKNOWN);
        due("hint(3, 0, 0, 0)", x.hint(3, 0, 0, 0), UNKNOWN);
        due("hint(0, 3, 0, 0)", x.hint(0, 3, 0, 0), UNKNOWN);
        due("hint(1, 1, 5, 2), UNKNOWN first", x.hint(1, 1, 5, 2), UNKNOWN);
        due("hint(0, 1, -1, 0)", x.hint(0, 1, -1, 0), OUTSIDE);
        due("hint(0, 1, 5, 0)", x.hint(0, 1, 5, 0), OUTSIDE);
        due("hint(0, 1, 0, -1)", x.hint(0, 1, 0, -1), OUTSIDE);
        due("hint(0, 1, 0, 2)", x.hint(0, 1, 0, 2), OUTSIDE);
        due("hint(0, 2, 5, 0), one is down", x.hint(0, 2, 5, 0), OUTSIDE);
    }

    private static void alone() {
        promise = "13 alone";
        BaizeCorps x = new BaizeCorps();
        due("alone(22, 2, 0, 0)", x.alone(22, 2, 0, 0), 22);
        due("alone(22, 2, 4, 0)", x.alone(22, 2, 4, 0), 26);
        due("alone(22, 2, 5, 0)", x.alone(22, 2, 5, 0), 25);
        due("alone(22, 2, 15, 0)", x.alone(22, 2, 15, 0), 21);
        due("alone(22, 2, 16, 0)", x.alone(22, 2, 16, 0), 22);
        due("alone(22, 2, 99999, 0)", x.alone(22, 2, 99999, 0), 21);
        due("alone(22, 2, 0, 1)", x.alone(22, 2, 0, 1), 16);
        due("alone(22, 2, 0, 2)", x.alone(22, 2, 0, 2), 9);
        due("alone(10, 7, 1, 0), a pocket takes nothing", x.alone(10, 7, 1, 0), 0);
        due("alone(10, 7, 2, 0), off both cushions", x.alone(10, 7, 2, 0), 10);
        due("alone(10, 7, 0, 1)", x.alone(10, 7, 0, 1), 16);
        due("alone(10, 7, 0, 2)", x.alone(10, 7, 0, 2), 9);
        due("alone(10, 0, 0, 1)", x.alone(10, 0, 0, 1), 8);
        due("alone(10, 0, 0, 2)", x.alone(10, 0, 0, 2), 5);
        due("alone(2, 0, 0, 1)", x.alone(2, 0, 0, 1), 8);
        due("alone(2, 4, 0, 1)", x.alone(2, 4, 0, 1), NONE);
        due("alone(26, 2, 0, 1)", x.alone(26, 2, 0, 1), 16);
        due("alone(26, 6, 0, 1)", x.alone(26, 6, 0, 1), NONE);
        due("alone(9, 5, 0, 1)", x.alone(9, 5, 0, 1), 16);
        due("alone(9, 1, 0, 1)", x.alone(9, 1, 0, 1), NONE);
        due("alone(9, 5, 0, 2)", x.alone(9, 5, 0, 2), 15);
        for (int pocket : POCKETS) {
            due("alone(" + pocket + ", 0, 0, 0)", x.alone(pocket, 0, 0, 0), UNKNOWN);
        }
        due("alone(-1, 0, 0, 0)", x.alone(-1, 0, 0, 0), UNKNOWN);
        due("alone(45, 8, 0, 0), UNKNOWN first", x.alone(45, 8, 0, 0), UNKNOWN);
        due("alone(9, -1, 0, 0)", x.alone(9, -1, 0, 0), OUTSIDE);
        due("alone(9, 8, 0, 0)", x.alone(9, 8, 0, 0), OUTSIDE);
        due("alone(9, 0, 0, -1)", x.alone(9, 0, 0, -1), OUTSIDE);
        due("alone(9, 0, 0, 3)", x.alone(9, 0, 0, 3), OUTSIDE);
        for (int what = 0; what <= 2; what++) {
            due("alone(9, 0, -1, " + what + ")", x.alone(9, 0, -1, what), OUTSIDE);
            due("alone(9, 0, 100000, " + what + ")", x.alone(9, 0, 100000, what), OUTSIDE);
        }
        due("alone(10, 2, 6, 0), no other one there", x.alone(10, 2, 7, 0), 17);
    }

    private static void strokes() {
        promise = "14 strokes";
        BaizeCorps x = new BaizeCorps();
        due("strokes(20, 21, 0)", x.strokes(20, 21, 0), 1);
        due("strokes(20, 21, 1)", x.strokes(20, 21, 1), 2);
        due("strokes(20, 20, 0)", x.strokes(20, 20, 0), 0);
        due("strokes(20, 20, 1)", x.strokes(20, 20, 1), NONE);
        due("strokes(10, 16, 0), others are not there", x.strokes(10, 16, 0), 1);
        due("strokes(10, 16, 1), the least of 1, 2 and more", x.strokes(10, 16, 1), 1);
        due("strokes(1, 5, 0), a pocket between", x.strokes(1, 5, 0), 2);
        due("strokes(1, 5, 1)", x.strokes(1, 5, 1), 0);
        due("strokes(3, 5, 1), round the table", x.strokes(3, 5, 1), 1);
        due("strokes(18, 26, 1), off a cushion", x.strokes(18, 26, 1), 1);
        due("strokes(2, 38, 1), off a cushion at once", x.strokes(2, 38, 1), 0);
        due("strokes(38, 2, 1)", x.strokes(38, 2, 1), 0);
        due("strokes(1, 35, 0)", x.strokes(1, 35, 0), 2);
        due("strokes(25, 9, 0)", x.strokes(25, 9, 0), 1);
        for (int pocket : POCKETS) {
            due("strokes(" + pocket + ", 1, 0)", x.strokes(pocket, 1, 0), UNKNOWN);
            due("strokes(1, " + pocket + ", 0)", x.strokes(1, pocket, 0), UNKNOWN);
        }
        due("strokes(0, 0, 0)", x.strokes(0, 0, 0), UNKNOWN);
        due("strokes(-1, 1, 0)", x.strokes(-1, 1, 0), UNKNOWN);
        due("strokes(1, -1, 0)", x.strokes(1, -1, 0), UNKNOWN);
        due("strokes(45, 1, 0)", x.strokes(45, 1, 0), UNKNOWN);
        due("strokes(1, 45, 2), UNKNOWN first", x.strokes(1, 45, 2), UNKNOWN);
        due("strokes(1, 2, -1)", x.strokes(1, 2, -1), OUTSIDE);
        due("strokes(1, 2, 2)", x.strokes(1, 2, 2), OUTSIDE);
        due("strokes(1, 1, 2)", x.strokes(1, 1, 2), OUTSIDE);
    }

    private static void seen() {
        promise = "15 seen";
        BaizeCorps x = new BaizeCorps();
        due("seen(61, 1)", x.seen(61, 1), OUTSIDE);
        due("seen(-1, 1)", x.seen(-1, 1), OUTSIDE);
        due("seen(0, 45)", x.seen(0, 45), UNKNOWN);
        due("seen(0, -1)", x.seen(0, -1), UNKNOWN);
        due("seen(61, 45), UNKNOWN first", x.seen(61, 45), UNKNOWN);
        due("told(4)", x.told(4), 0);
        due("seen(0, 44), a pocket", x.seen(0, 44), 1);
        due("seen(60, 0)", x.seen(60, 0), 2);
        for (int k = 3; k <= 8; k++) {
            due("seen, the " + k + "-th", x.seen(5, 5), k);
        }
        due("seen, all are full", x.seen(5, 5), FULL);
        due("seen(61, 5), OUTSIDE first", x.seen(61, 5), OUTSIDE);
        due("seen(5, 45), UNKNOWN first", x.seen(5, 45), UNKNOWN);
        due("told(4)", x.told(4), 8);
    }

    private static void forget() {
        promise = "16 forget";
        BaizeCorps x = new BaizeCorps();
        due("forget() of none", x.forget(), 0);
        x.seen(0, 22);
        x.seen(1, 23);
        due("forget()", x.forget(), 2);
        due("forget() again", x.forget(), 0);
        due("sent(-1)", x.sent(-1), 312);
        x.seen(0, 21);
        due("sent(0) by the new one alone", x.sent(0), 210);
    }

    private static void sent() {
        promise = "17 sent";
        BaizeCorps x = new BaizeCorps();
        due("sent(-1)", x.sent(-1), 312);
        due("sent(0)", x.sent(0), 10);
        due("sent(8)", x.sent(8), 20);
        due("sent(311)", x.sent(311), 437);
        due("sent(312)", x.sent(312), NONE);
        for (int odd : FAR) {
            due("sent(" + odd + ")", x.sent(odd), NONE);
        }
        x.seen(1, 0);
        due("sent(-1), a pocket takes nothing", x.sent(-1), 3);
        due("sent(0)", x.sent(0), 16);
        due("sent(1)", x.sent(1), 90);
        due("sent(2)", x.sent(2), 107);
        due("sent(3)", x.sent(3), NONE);
        x.seen(18, 10);
        due("sent(-1), behind 18 steps", x.sent(-1), 1);
        due("sent(0)", x.sent(0), 107);
        x.seen(60, 22);
        due("sent(-1), none fits", x.sent(-1), 0);
        due("sent(0)", x.sent(0), NONE);
    }

    private static void ask() {
        promise = "18 ask";
        BaizeCorps x = new BaizeCorps();
        due("ask(0)", x.ask(0), 0);
        due("ask(1)", x.ask(1), 8);
        due("ask(-1)", x.ask(-1), OUTSIDE);
        due("ask(2)", x.ask(2), OUTSIDE);
        x.seen(16, 22);
        due("ask(0), eight ways from one cell", x.ask(0), 1);
        due("ask(1)", x.ask(1), 1);
        x.seen(8, 22);
        due("ask(0), all but to and fro", x.ask(0), 1);
        x.seen(1, 23);
        due("ask(0), one is left", x.ask(0), 0);
        due("ask(2), OUTSIDE", x.ask(2), OUTSIDE);
        due("sent(0)", x.sent(0), 222);
        due("ask(1)", x.ask(1), 1);
        x.seen(2, 23);
        due("ask(0), nothing fits", x.ask(0), NONE);
        due("ask(1), nothing fits", x.ask(1), NONE);
        due("ask(-1), OUTSIDE first", x.ask(-1), OUTSIDE);
        x.forget();
        // by 5, and by 7 off a cushion, it goes the one way for ever
        x.seen(0, 1);
        x.seen(1, 9);
        due("sent(-1)", x.sent(-1), 2);
        due("ask(0), no step parts them", x.ask(0), 0);
        due("ask(1), no step parts them", x.ask(1), 2);
    }

    private static void dueChalk(int row, int miss, int whether, int move) {
        BaizeCorps x = new BaizeCorps();
        due("chalk(" + row + ", " + miss + ", 0)", x.chalk(row, miss, 0), whether);
        due("chalk(" + row + ", " + miss + ", 1)", x.chalk(row, miss, 1), move);
    }

    private static void chalk() {
        promise = "19 chalk";
        dueChalk(0, 0, 0, NONE);
        dueChalk(0, 1, 0, NONE);
        dueChalk(1, 0, 1, 21);
        dueChalk(10, 0, 1, 11);
        dueChalk(900, 0, 1, 9);
        dueChalk(9, 0, 1, 29);
        dueChalk(11, 0, 0, NONE);
        dueChalk(123, 0, 0, NONE);
        dueChalk(124, 0, 1, 21);
        dueChalk(111, 0, 1, 1);
        // who takes the last leaves nothing to miss; of 1 and 1 he that misses comes behind
        dueChalk(1, 1, 1, 21);
        dueChalk(2, 1, 1, 22);
        dueChalk(300, 1, 1, 3);
        dueChalk(11, 1, 1, 99);
        dueChalk(12, 1, 0, NONE);
        dueChalk(22, 1, 1, 11);
        dueChalk(55, 1, 1, 99);
        dueChalk(111, 1, 0, NONE);
        dueChalk(112, 1, 1, 1);
        dueChalk(999, 0, 1, 9);
        dueChalk(999, 1, 1, 8);
        BaizeCorps x = new BaizeCorps();
        due("chalk(-1, 0, 0)", x.chalk(-1, 0, 0), OUTSIDE);
        due("chalk(1000, 0, 0)", x.chalk(1000, 0, 0), OUTSIDE);
        due("chalk(0, -1, 0)", x.chalk(0, -1, 0), OUTSIDE);
        due("chalk(0, 2, 0)", x.chalk(0, 2, 0), OUTSIDE);
        due("chalk(0, 0, -1)", x.chalk(0, 0, -1), OUTSIDE);
        due("chalk(0, 0, 2)", x.chalk(0, 0, 2), OUTSIDE);
    }

    private static void dueMatch(int n, int t, int a, int b, int what, long upper, long lower) {
        BaizeCorps x = new BaizeCorps();
        String call = "match(" + n + ", " + t + ", " + a + ", " + b + ", " + what + ", ";
        due(call + "0)", x.match(n, t, a, b, what, 0), upper);
        due(call + "1)", x.match(n, t, a, b, what, 1), lower);
    }

    private static void match() {
        promise = "20 match";
        dueMatch(1, 5, 0, 0, 0, 1, 2);
        dueMatch(1, 5, 0, 0, 1, 1, 1);
        dueMatch(1, 3, 0, 0, 0, 3, 10);
        dueMatch(2, 5, 0, 0, 0, 1, 2);
        dueMatch(2, 5, 0, 0, 1, 5, 2);
        dueMatch(2, 5, 1, 0, 0, 3, 4);
        dueMatch(2, 5, 0, 1, 0, 1, 4);
        dueMatch(2, 5, 1, 1, 1, 1, 1);
        dueMatch(2, 1, 0, 0, 0, 7, 250);
        dueMatch(2, 1, 0, 0, 1, 109, 50);
        dueMatch(3, 0, 0, 0, 0, 0, 1);
        dueMatch(3, 0, 0, 1, 1, 2, 1);
        dueMatch(3, 10, 0, 0, 0, 1, 1);
        dueMatch(8, 10, 0, 7, 0, 1, 1);
        dueMatch(8, 10, 0, 7, 1, 8, 1);
        dueMatch(8, 0, 0, 0, 1, 8, 1);
        dueMatch(8, 5, 0, 0, 0, 1, 2);
        dueMatch(8, 5, 0, 0, 1, 26333, 2048);
        dueMatch(8, 3, 0, 7, 0, 6561, 100000000);
        long gone = -1000000000000000002L;
        dueMatch(0, 5, 0, 0, 0, gone, gone);
        dueMatch(9, 5, 0, 0, 0, gone, gone);
        dueMatch(3, -1, 0, 0, 0, gone, gone);
        dueMatch(3, 11, 0, 0, 0, gone, gone);
        dueMatch(3, 5, -1, 0, 0, gone, gone);
        dueMatch(3, 5, 3, 0, 0, gone, gone);
        dueMatch(3, 5, 0, -1, 0, gone, gone);
        dueMatch(3, 5, 0, 3, 0, gone, gone);
        dueMatch(3, 5, 0, 0, -1, gone, gone);
        dueMatch(3, 5, 0, 0, 2, gone, gone);
        BaizeCorps x = new BaizeCorps();
        due("match(3, 5, 0, 0, 0, -1)", x.match(3, 5, 0, 0, 0, -1), gone);
        due("match(3, 5, 0, 0, 0, 2)", x.match(3, 5, 0, 0, 0, 2), gone);
    }

    private static void dueSeason(BaizeCorps x, int seed, int m, int points, int fouls, int down) {
        String call = "season(" + seed + ", " + m + ", ";
        due(call + "0)", x.season(seed, m, 0), points);
        due(call + "1)", x.season(seed, m, 1), fouls);
        due(call + "2)", x.season(seed, m, 2), down);
    }

    private static void season() {
        promise = "21 season";
        // seed 0: x is 74, a stroke of C by way 3 and force 1, that can not be when C is down
        dueSeason(lying(20, 22, 34), 0, 1, 0, 1, 1);
        dueSeason(lying(20, 34, 24), 0, 1, 0, 1, 0);
        dueSeason(lying(20, 24, DOWN), 0, 1, 0, 0, 1);
        // seed 1: x is 149, a stroke of C by way 6 and force 1
        dueSeason(lying(20, 22, 1), 1, 1, 0, 1, 1);
        dueSeason(lying(20, 25, 26), 1, 1, 0, 1, 0);
        BaizeCorps x = lying(20, 22, 34);
        x.score(98, 97);
        text(x, "A");
        dueSeason(x, 0, 1, 98, 98, 1);
        due("told(12), nothing is done", x.told(12), 34);
        due("told(2), nothing is done", x.told(2), 97);
        due("season(9999, 99, 2), not refused", Math.min(0, x.season(9999, 99, 2)), 0);
        due("season(-1, 1, 0)", x.season(-1, 1, 0), OUTSIDE);
        due("season(10000, 1, 0)", x.season(10000, 1, 0), OUTSIDE);
        due("season(0, 0, 0)", x.season(0, 0, 0), OUTSIDE);
        due("season(0, 100, 0)", x.season(0, 100, 0), OUTSIDE);
        due("season(0, 1, -1)", x.season(0, 1, -1), OUTSIDE);
        due("season(0, 1, 3)", x.season(0, 1, 3), OUTSIDE);
        x = new BaizeCorps();
        x.score(99, 99);
        x.ball(0, 1);
        x.ball(1, 11);
        x.ball(2, 21);
        dueSeason(x, 5, 90, 102, 105, 1);
    }

    private static void image() {
        promise = "22 image";
        BaizeCorps x = new BaizeCorps();
        due("image(-1)", x.image(-1), OUTSIDE);
        due("image(2)", x.image(2), OUTSIDE);
        for (int odd : FAR) {
            due("image(" + odd + ")", x.image(odd), OUTSIDE);
        }
        due("image(0)", x.image(0), 1);
        due("image(0), a later one", x.score(1, 2) + x.image(0), 1);
        x.score(3, 4);
        due("image(1)", x.image(1), 1);
        x.restore(0);
        due("told(1)", x.told(1), 1);
        x.restore(1);
        due("told(1)", x.told(1), 3);
    }

    private static void restore() {
        promise = "23 restore";
        BaizeCorps x = lying(20, DOWN, 24);
        due("restore(0)", x.restore(0), STATE);
        due("restore(2)", x.restore(2), OUTSIDE);
        due("restore(-1)", x.restore(-1), OUTSIDE);
        x.score(5, 6);
        x.seen(1, 23);
        x.seen(0, 22);
        text(x, "..").done();
        text(x, "A01");
        x.image(0);
        due("restore(1), not kept", x.restore(1), STATE);
        x.ball(0, DOWN);
        x.ball(1, 16);
        x.ball(2, 20);
        x.score(1, 1);
        x.forget();
        x.seen(3, 3);
        text(x, ".").done();
        text(x, "~~~~");
        for (int time = 0; time < 2; time++) {
            due("restore(0)", x.restore(0), 1);
            due("told(0), the pad stays", x.told(0), 4 + time);
            due("told(1)", x.told(1), 5);
            due("told(2)", x.told(2), 6);
            due("told(3)", x.told(3), 2);
            due("told(4)", x.told(4), 2);
            due("told(10)", x.told(10), 20);
            due("told(11)", x.told(11), NONE);
            due("told(12)", x.told(12), 24);
            due("sent(0)", x.sent(0), 222);
            x.forget();
            x.seen(4, 4);
            x.ball(0, 1);
            x.score(0, 0);
            x.say('~');
        }
    }

    private static void told() {
        promise = "24 told";
        BaizeCorps x = lying(20, DOWN, 24);
        x.score(5, 6);
        x.seen(1, 23);
        text(x, "...").done();
        text(x, "A0");
        due("told(0)", x.told(0), 2);
        due("told(1)", x.told(1), 5);
        due("told(2)", x.told(2), 6);
        due("told(3)", x.told(3), 3);
        due("told(4)", x.told(4), 1);
        due("told(10)", x.told(10), 20);
        due("told(11)", x.told(11), NONE);
        due("told(12)", x.told(12), 24);
        for (int what : new int[] {-1, 5, 6, 7, 8, 9, 13, Integer.MIN_VALUE, Integer.MAX_VALUE}) {
            due("told(" + what + ")", x.told(what), OUTSIDE);
        }
    }
}
