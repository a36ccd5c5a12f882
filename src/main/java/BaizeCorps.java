/** A billiard table as a diplomatic corps. ../shared/DOC.md numbers what each call promises. */
public final class BaizeCorps {
    public static final int UNKNOWN = -1, OUTSIDE = -2, STATE = -3, FULL = -4, NO = -5, NONE = -6;
    public static final long GONE = -1000000000000000000L;

    private static final int ROWS = 5, COLUMNS = 9, CELLS = ROWS * COLUMNS;
    private static final int WAYS = 8, MOST_FORCE = 9, BALLS = 3;
    private static final int DOWN = -1, NOBODY = -1;
    private static final int STROKE = 0, BRING_UP = 1, NAP = 2, EVENING = 3;
    private static final int LAST_EVENING = 99;
    private static final int PAD_SIGNS = 60, MOST_SIGHTS = 8, IMAGES = 2;
    /** No reason against an ACT, no refusal of a call. */
    private static final int FINE = 0;
    /** A BALL that is ALONE goes to and fro in 8 steps by rows and in 16 by columns. */
    private static final int ROUND = 16;

    private static final int[] FIRST_CELLS = {10, 16, 24};
    private static final int[] ROW_STEPS = {-1, -1, 0, 1, 1, 1, 0, -1};
    private static final int[] COLUMN_STEPS = {0, 1, 1, 1, 0, -1, -1, -1};

    private final Table now;
    private final Sights sights;
    private final Pad pad;
    private final Trial trial;
    private final Track track;
    private final Whence whence;
    private final Heaps heaps;
    private final Image[] images;

    public BaizeCorps() {
        now = new Table();
        sights = new Sights();
        pad = new Pad();
        trial = new Trial();
        track = new Track();
        whence = new Whence();
        heaps = new Heaps();
        images = new Image[IMAGES];
        for (int k = 0; k < IMAGES; k++) {
            images[k] = new Image();
        }
    }

    // ---- 1 balls, points

    public int ball(int ball, int cell) {
        if (!isBall(ball) || cell != DOWN && !isPlace(cell)) {
            return UNKNOWN;
        }
        int lying = now.lyingOn(cell);
        if (cell != DOWN && lying != NOBODY && lying != ball) {
            return STATE;
        }
        int before = now.cellOrNone(ball);
        now.cells[ball] = cell;
        return before;
    }

    public int score(int points, int fouls) {
        if (!isWithin(points, 0, 99) || !isWithin(fouls, 0, 99)) {
            return OUTSIDE;
        }
        int before = 100 * now.points + now.fouls;
        now.points = points;
        now.fouls = fouls;
        return before;
    }

    public int say(int sign) {
        if (!isWithin(sign, 33, 126)) {
            return OUTSIDE;
        }
        return pad.add(sign) ? pad.count : FULL;
    }

    public int wipe() {
        return pad.empty();
    }

    public int fault() {
        return pad.firstFault();
    }

    // ---- 2 crises

    public int judge(int what) {
        if (!isWithin(what, 0, 2)) {
            return OUTSIDE;
        }
        int refusal = tryText();
        if (refusal == NO || refusal == STATE && what == 2) {
            return refusal;
        }
        switch (what) {
            case 0: return trial.badAct;
            case 1: return trial.why;
            default: return trial.touches;
        }
    }

    public int behind(int ball) {
        if (!isBall(ball)) {
            return UNKNOWN;
        }
        int refusal = tryText();
        return refusal != FINE ? refusal : trial.table.cellOrNone(ball);
    }

    public int table(int what) {
        if (!isWithin(what, 0, 3)) {
            return OUTSIDE;
        }
        int refusal = tryText();
        if (refusal != FINE) {
            return refusal;
        }
        switch (what) {
            case 0: return trial.table.points;
            case 1: return trial.table.fouls;
            case 2: return trial.table.howManyDown();
            default: return trial.table.evening;
        }
    }

    public int candour(int what) {
        if (!isWithin(what, 0, 1)) {
            return OUTSIDE;
        }
        int refusal = tryText();
        if (refusal != FINE) {
            return refusal;
        }
        return what == 0 ? trial.foulAct : trial.cushions;
    }

    public int done() {
        int refusal = tryText();
        if (refusal != FINE) {
            return refusal;
        }
        now.copy(trial.table);
        pad.empty();
        return trial.acts;
    }

    /** Runs the PAD's text on a copy of the TABLE: FINE, NO or STATE. */
    private int tryText() {
        if (pad.firstFault() != NONE) {
            return NO;
        }
        trial.runText(pad, now);
        return trial.badAct == NONE ? FINE : STATE;
    }

    // ---- 3 hints, alone, strokes

    public int hint(int ball, int other, int c, int what) {
        if (!isBall(ball) || !isBall(other) || ball == other) {
            return UNKNOWN;
        }
        if (!isWithin(c, 0, 4) || !isWithin(what, 0, 1)) {
            return OUTSIDE;
        }
        if (now.isDown(ball) || now.isDown(other)) {
            return NONE;
        }
        int leastForce = NONE;
        int leastWay = NONE;
        for (int way = 0; way < WAYS; way++) {
            int force = trial.forceToTouch(now, ball, way, other, c);
            if (force != NONE && (leastForce == NONE || force < leastForce)) {
                leastForce = force;
                leastWay = way;
            }
        }
        return what == 0 ? leastForce : leastWay;
    }

    public int alone(int cell, int way, int n, int what) {
        if (!isPlace(cell)) {
            return UNKNOWN;
        }
        if (!isWithin(way, 0, WAYS - 1) || !isWithin(n, 0, 99999) || !isWithin(what, 0, 2)) {
            return OUTSIDE;
        }
        track.walk(cell, way);
        switch (what) {
            case 0: return track.cellBehind(n);
            case 1: return track.back;
            default: return Long.bitCount(track.everOn);
        }
    }

    public int strokes(int from, int to, int what) {
        if (!isPlace(from) || !isPlace(to)) {
            return UNKNOWN;
        }
        if (!isWithin(what, 0, 1)) {
            return OUTSIDE;
        }
        if (from == to) {
            return what == 0 ? 0 : NONE;
        }
        long near = bit(to);
        for (int count = 1; count < CELLS; count++) {
            int way = firstWayInto(from, near);
            if (way != NONE) {
                return what == 0 ? count : way;
            }
            near = withAllThatReach(near);
        }
        return NONE;
    }

    /** The least WAY by which one STROKE leads from the CELL into the set; NONE. */
    private static int firstWayInto(int cell, long set) {
        for (int way = 0; way < WAYS; way++) {
            if ((reachOf(cell, way) & set) != 0) {
                return way;
            }
        }
        return NONE;
    }

    /** The set, and every CELL from which one STROKE leads into it. */
    private static long withAllThatReach(long set) {
        long wider = set;
        for (int cell = 0; cell < CELLS; cell++) {
            if (isPlace(cell) && firstWayInto(cell, set) != NONE) {
                wider |= bit(cell);
            }
        }
        return wider;
    }

    /** The CELLS, as bits, where one STROKE by this WAY can leave a BALL with no other about. */
    private static long reachOf(int cell, int way) {
        long reach = 0;
        int at = cell;
        int by = way;
        for (int force = 1; force <= MOST_FORCE; force++) {
            by = turned(at, by);
            at = next(at, by);
            if (isPocket(at)) {
                return reach;
            }
            reach |= bit(at);
        }
        return reach;
    }

    // ---- 4 whence, chalk, matches

    public int seen(int step, int cell) {
        if (!isCell(cell)) {
            return UNKNOWN;
        }
        if (!isWithin(step, 0, 60)) {
            return OUTSIDE;
        }
        return sights.add(step, cell) ? sights.count : FULL;
    }

    public int forget() {
        int before = sights.count;
        sights.count = 0;
        return before;
    }

    public int sent(int i) {
        whence.gather(sights, track);
        if (i == -1) {
            return whence.count;
        }
        return isWithin(i, 0, whence.count - 1) ? whence.codes[i] : NONE;
    }

    public int ask(int what) {
        if (!isWithin(what, 0, 1)) {
            return OUTSIDE;
        }
        whence.gather(sights, track);
        if (whence.count == 0) {
            return NONE;
        }
        whence.chooseStep(track);
        return what == 0 ? whence.bestStep : whence.leftAtMost;
    }

    public int chalk(int row, int miss, int what) {
        if (!isWithin(row, 0, 999) || !isWithin(miss, 0, 1) || !isWithin(what, 0, 1)) {
            return OUTSIDE;
        }
        int move = heaps.winningMove(row, miss == 1);
        if (what == 0) {
            return move == NONE ? 0 : 1;
        }
        return move;
    }

    public long match(int n, int t, int a, int b, int what, int part) {
        boolean toldRight = isWithin(n, 1, 8) && isWithin(t, 0, 10)
            && isWithin(a, 0, n - 1) && isWithin(b, 0, n - 1)
            && isWithin(what, 0, 1) && isWithin(part, 0, 1);
        if (!toldRight) {
            return GONE + OUTSIDE;
        }
        int mine = n - a;
        int theirs = n - b;
        long lower = Odds.power(10, mine + theirs - 1);
        long upper = what == 0 ? Odds.winning(mine, theirs, t) : Odds.games(mine, theirs, t);
        long common = Math.max(1L, Odds.commonDivisor(upper, lower));
        return part == 0 ? upper / common : lower / common;
    }

    public int season(int seed, int m, int what) {
        if (!isWithin(seed, 0, 9999) || !isWithin(m, 1, 99) || !isWithin(what, 0, 2)) {
            return OUTSIDE;
        }
        trial.runSeason(seed, m, now);
        switch (what) {
            case 0: return trial.table.points;
            case 1: return trial.table.fouls;
            default: return trial.table.howManyDown();
        }
    }

    public int image(int k) {
        if (!isWithin(k, 0, IMAGES - 1)) {
            return OUTSIDE;
        }
        images[k].keep(now, sights);
        return 1;
    }

    public int restore(int k) {
        if (!isWithin(k, 0, IMAGES - 1)) {
            return OUTSIDE;
        }
        if (!images[k].kept) {
            return STATE;
        }
        now.copy(images[k].table);
        sights.copy(images[k].sights);
        return 1;
    }

    public int told(int what) {
        switch (what) {
            case 0: return pad.count;
            case 1: return now.points;
            case 2: return now.fouls;
            case 3: return now.evening;
            case 4: return sights.count;
            default: return isWithin(what, 10, 12) ? now.cellOrNone(what - 10) : OUTSIDE;
        }
    }

    // ---- the cells and the ways

    private static boolean isWithin(int number, int least, int most) {
        return number >= least && number <= most;
    }

    private static boolean isBall(int ball) {
        return ball >= 0 && ball < BALLS;
    }

    private static boolean isCell(int cell) {
        return isWithin(cell, 0, CELLS - 1);
    }

    private static boolean isPocket(int cell) {
        int row = cell / COLUMNS;
        return (row == 0 || row == ROWS - 1) && cell % COLUMNS % 4 == 0;
    }

    /** A CELL on which a BALL can lie. */
    private static boolean isPlace(int cell) {
        return isCell(cell) && !isPocket(cell);
    }

    private static long bit(int cell) {
        return 1L << cell;
    }

    /** The WAY by which a step from the CELL is taken: another one just if there is a CUSHION. */
    private static int turned(int cell, int way) {
        int by = way & 7;
        int row = cell / COLUMNS + ROW_STEPS[by];
        int column = cell % COLUMNS + COLUMN_STEPS[by];
        if (row < 0 || row >= ROWS) {
            by = (4 - by) & 7;
        }
        if (column < 0 || column >= COLUMNS) {
            by = (8 - by) & 7;
        }
        return by;
    }

    /** The CELL a step ahead, the WAY being turned already. */
    private static int next(int cell, int way) {
        return cell + COLUMNS * ROW_STEPS[way & 7] + COLUMN_STEPS[way & 7];
    }

    /** How things lie, and what has been counted. */
    private static final class Table {
        final int[] cells = new int[BALLS];
        int points;
        int fouls;
        int evening;

        Table() {
            for (int ball = 0; ball < BALLS; ball++) {
                cells[ball] = FIRST_CELLS[ball];
            }
        }

        void copy(Table from) {
            for (int ball = 0; ball < BALLS; ball++) {
                cells[ball] = from.cells[ball];
            }
            points = from.points;
            fouls = from.fouls;
            evening = from.evening;
        }

        boolean isDown(int ball) {
            return !isBall(ball) || cells[ball] == DOWN;
        }

        int cellOrNone(int ball) {
            return isDown(ball) ? NONE : cells[ball];
        }

        /** The BALL on the CELL; NOBODY. */
        int lyingOn(int cell) {
            for (int ball = 0; ball < BALLS; ball++) {
                if (cells[ball] == cell) {
                    return ball;
                }
            }
            return NOBODY;
        }

        int howManyDown() {
            int down = 0;
            for (int ball = 0; ball < BALLS; ball++) {
                if (isDown(ball)) {
                    down++;
                }
            }
            return down;
        }

        /** Why the ACT can not be, 1 to 3; FINE. */
        int reasonAgainst(int kind, int ball) {
            switch (kind) {
                case STROKE: return isDown(ball) ? 1 : FINE;
                case BRING_UP:
                    if (!isBall(ball) || cells[ball] != DOWN) {
                        return 1;
                    }
                    return lyingOn(FIRST_CELLS[ball]) == NOBODY ? FINE : 2;
                case EVENING: return evening >= LAST_EVENING ? 3 : FINE;
                default: return FINE;
            }
        }

        /** A BALL that has gone lies in a column done already, so none goes twice. */
        void drift() {
            for (int column = 1; column < COLUMNS; column++) {
                for (int ball = 0; ball < BALLS; ball++) {
                    if (!isDown(ball) && cells[ball] % COLUMNS == column) {
                        driftOne(ball);
                    }
                }
            }
        }

        private void driftOne(int ball) {
            int to = cells[ball] - 1;
            if (!isPocket(to) && lyingOn(to) == NOBODY) {
                cells[ball] = to;
            }
        }
    }

    /** One STROKE, and what comes of it. */
    private static final class Stroke {
        int sentBall;
        int touches;
        int cushions;
        int downBall;
        int firstTouched;
        int firstForce;
        int firstCushions;

        /** The BALL is on the TABLE. */
        void run(Table table, int ball, int way, int force) {
            begin(ball);
            int moving = ball;
            int by = way;
            for (int spent = 1; spent <= force && downBall == NOBODY; spent++) {
                int cell = table.cells[moving];
                int turnedBy = turned(cell, by);
                if (turnedBy != by) {
                    cushions++;
                }
                by = turnedBy;
                int to = next(cell, by);
                int lying = table.lyingOn(to);
                if (lying != NOBODY) {
                    touch(lying, spent);
                    moving = lying;
                } else if (isPocket(to)) {
                    table.cells[moving] = DOWN;
                    downBall = moving;
                } else {
                    table.cells[moving] = to;
                }
            }
        }

        private void begin(int ball) {
            sentBall = ball;
            touches = 0;
            cushions = 0;
            downBall = NOBODY;
            firstTouched = NOBODY;
            firstForce = NONE;
            firstCushions = NONE;
        }

        private void touch(int lying, int spent) {
            touches++;
            if (touches == 1) {
                firstTouched = lying;
                firstForce = spent;
                firstCushions = cushions;
            }
        }

        int pointsMore() {
            int cannon = touches >= 2 ? 2 : 0;
            int hazard = downBall != NOBODY && downBall != sentBall ? 3 : 0;
            return cannon + hazard;
        }

        int foulsMore() {
            int lost = downBall == sentBall ? 1 : 0;
            int candid = touches > 0 && firstCushions == 0 ? 1 : 0;
            return lost + candid;
        }
    }

    /** ACTS on a copy of the TABLE: of a text, of a season, or a STROKE to see what it does. */
    private static final class Trial {
        final Table table = new Table();
        final Stroke stroke = new Stroke();
        int acts;
        int badAct;
        int why;
        int touches;
        int cushions;
        int foulAct;

        private void begin(Table from) {
            table.copy(from);
            acts = 0;
            badAct = NONE;
            why = NONE;
            touches = 0;
            cushions = 0;
            foulAct = NONE;
        }

        /** A PAD without FAULT; it ends at the first ACT that can not be. */
        void runText(Pad pad, Table from) {
            begin(from);
            for (int place = 0; place < pad.count && badAct == NONE; place += pad.actLength(place)) {
                int foulsBefore = table.fouls;
                int reason = tryAct(pad.actKind(place), pad.signAt(place) - 'A',
                    pad.signAt(place + 1) - '0', pad.signAt(place + 2) - '0');
                if (reason != FINE) {
                    badAct = acts;
                    why = reason;
                }
                if (foulAct == NONE && table.fouls > foulsBefore) {
                    foulAct = acts;
                }
                acts++;
            }
        }

        void runSeason(int seed, int m, Table from) {
            begin(from);
            int x = seed;
            for (int act = 0; act < m; act++) {
                x = (75 * x + 74) % 65537;
                int lot = x / 3 % 8;
                int z = x / 24;
                tryAct(lot <= 4 ? STROKE : lot - 4, x % 3, z % 8, 1 + z / 8 % 9);
            }
        }

        /** The FORCE by which the other BALL is TOUCHED first, c CUSHIONS being ahead; NONE. */
        int forceToTouch(Table from, int ball, int way, int other, int c) {
            begin(from);
            stroke.run(table, ball, way, MOST_FORCE);
            return stroke.firstTouched == other && stroke.firstCushions == c ? stroke.firstForce : NONE;
        }

        /** Does the ACT if it can be: FINE, or why it can not. */
        private int tryAct(int kind, int ball, int way, int force) {
            int reason = table.reasonAgainst(kind, ball);
            if (reason != FINE) {
                return reason;
            }
            switch (kind) {
                case STROKE: play(ball, way, force); break;
                case BRING_UP: table.cells[ball] = FIRST_CELLS[ball]; break;
                case NAP: table.drift(); break;
                default: table.evening++; break;
            }
            return FINE;
        }

        private void play(int ball, int way, int force) {
            stroke.run(table, ball, way, force);
            table.points += stroke.pointsMore();
            table.fouls += stroke.foulsMore();
            touches += stroke.touches;
            cushions += stroke.cushions;
        }
    }

    /** The PAD with the text of ACTS. */
    private static final class Pad {
        private final int[] signs = new int[PAD_SIGNS];
        int count;

        boolean add(int sign) {
            if (count >= PAD_SIGNS) {
                return false;
            }
            signs[count] = sign;
            count++;
            return true;
        }

        int empty() {
            int before = count;
            count = 0;
            return before;
        }

        /** A sign, 0 where none is. */
        int signAt(int place) {
            return isWithin(place, 0, count - 1) ? signs[place] : 0;
        }

        int firstFault() {
            int ahead = 0;
            for (int place = 0; place < count; place++) {
                int sign = signs[place];
                if (!canStand(sign, ahead)) {
                    return place;
                }
                ahead = isActAt(sign, ahead) ? 0 : ahead + 1;
            }
            return ahead == 0 ? NONE : count;
        }

        /** Whether the sign can stand behind so many signs of its ACT. */
        private static boolean canStand(int sign, int ahead) {
            switch (ahead) {
                case 0: return isLetter(sign) || sign == '~' || sign == '.';
                case 1: return isWithin(sign, '0', '7') || sign == '^';
                default: return isWithin(sign, '1', '9');
            }
        }

        /** Whether an ACT ends with the sign, that can stand there. */
        private static boolean isActAt(int sign, int ahead) {
            switch (ahead) {
                case 0: return !isLetter(sign);
                case 1: return sign == '^';
                default: return true;
            }
        }

        private static boolean isLetter(int sign) {
            return isWithin(sign, 'A', 'C');
        }

        /** Of the ACT that begins at the place, there being no FAULT. */
        int actKind(int place) {
            if (!isLetter(signAt(place))) {
                return signAt(place) == '~' ? NAP : EVENING;
            }
            return signAt(place + 1) == '^' ? BRING_UP : STROKE;
        }

        int actLength(int place) {
            switch (actKind(place)) {
                case STROKE: return 3;
                case BRING_UP: return 2;
                default: return 1;
            }
        }
    }

    /** A BALL that is ALONE, sent for ever: where it is in one ROUND of steps. */
    private static final class Track {
        private final int[] cells = new int[ROUND];
        int back;
        long everOn;

        void walk(int cell, int way) {
            back = NONE;
            everOn = 0;
            int at = cell;
            int by = way;
            for (int step = 0; step < ROUND; step++) {
                cells[step] = at;
                everOn |= bit(at);
                by = turned(at, by);
                at = next(at, by);
                if (back == NONE && at == cell && by == way) {
                    back = step + 1;
                }
            }
        }

        int cellBehind(int steps) {
            return cells[Math.floorMod(steps, ROUND)];
        }
    }

    /** Where a BALL was seen behind how many steps. */
    private static final class Sights {
        private final int[] steps = new int[MOST_SIGHTS];
        private final int[] cells = new int[MOST_SIGHTS];
        int count;

        boolean add(int step, int cell) {
            if (count >= MOST_SIGHTS) {
                return false;
            }
            steps[count] = step;
            cells[count] = cell;
            count++;
            return true;
        }

        void copy(Sights from) {
            for (int i = 0; i < MOST_SIGHTS; i++) {
                steps[i] = from.steps[i];
                cells[i] = from.cells[i];
            }
            count = from.count;
        }

        boolean allFit(Track track) {
            for (int i = 0; i < count && i < MOST_SIGHTS; i++) {
                if (track.cellBehind(steps[i]) != cells[i]) {
                    return false;
                }
            }
            return true;
        }
    }

    /** Whence a BALL can have been sent by what was seen, and what to ask about next. */
    private static final class Whence {
        final int[] codes = new int[CELLS * WAYS];
        int count;
        int bestStep;
        int leftAtMost;
        private final int[] leftAt = new int[ROUND * CELLS];

        /** Codes are 10 times the CELL, and the WAY; the loops find them rising. */
        void gather(Sights sights, Track track) {
            count = 0;
            for (int cell = 0; cell < CELLS; cell++) {
                for (int way = 0; way < WAYS && isPlace(cell); way++) {
                    track.walk(cell, way);
                    if (sights.allFit(track)) {
                        codes[count] = 10 * cell + way;
                        count++;
                    }
                }
            }
        }

        /** Steps beyond one ROUND tell what those of the first one tell, and are not the least. */
        void chooseStep(Track track) {
            countLeft(track);
            bestStep = NONE;
            leftAtMost = NONE;
            for (int step = 0; step < ROUND; step++) {
                int most = mostLeftAt(step);
                if (bestStep == NONE || most < leftAtMost) {
                    bestStep = step;
                    leftAtMost = most;
                }
            }
        }

        private void countLeft(Track track) {
            for (int i = 0; i < ROUND * CELLS; i++) {
                leftAt[i] = 0;
            }
            for (int i = 0; i < count; i++) {
                track.walk(codes[i] / 10, codes[i] % 10);
                for (int step = 0; step < ROUND; step++) {
                    leftAt[step * CELLS + track.cellBehind(step)]++;
                }
            }
        }

        private int mostLeftAt(int step) {
            int most = 0;
            for (int cell = 0; cell < CELLS; cell++) {
                most = Math.max(most, leftAt[step * CELLS + cell]);
            }
            return most;
        }
    }

    /** Three heaps of chalk, with one miss. */
    private static final class Heaps {
        private static final int MISS = 99;
        /** Of the first two heaps (10 times the one, and the other), the third by which, the miss
            being free, who is to take has lost; NONE. There is one at the most, as from a third
            heap that is more he could take down to it. */
        private final int[] lostThird = new int[100];
        private boolean known;

        /** The least first move that wins; NONE. */
        int winningMove(int row, boolean missIsFree) {
            learn();
            for (int heap = 0; heap < 3; heap++) {
                int unit = heap == 0 ? 100 : heap == 1 ? 10 : 1;
                int chalks = row / unit % 10;
                for (int taken = 1; taken <= chalks; taken++) {
                    if (isLost(row - taken * unit, missIsFree)) {
                        return 10 * heap + taken;
                    }
                }
            }
            return missIsFree && row != 0 && isLost(row, false) ? MISS : NONE;
        }

        private boolean isLost(int row, boolean missIsFree) {
            int third = row % 10;
            int others = row / 10 % 100;
            if (missIsFree) {
                return lostThird[others] == third;
            }
            return (others / 10 ^ others % 10 ^ third) == 0;
        }

        private void learn() {
            for (int others = 0; others < 100 && !known; others++) {
                lostThird[others] = NONE;
                for (int third = 9; third >= 0; third--) {
                    if (!winsAtOnce(others, third)) {
                        lostThird[others] = third;
                    }
                }
            }
            known = true;
        }

        /** By the miss, or by what he takes of one of the first two heaps. */
        private boolean winsAtOnce(int others, int third) {
            int row = 10 * others + third;
            if (row != 0 && isLost(row, false)) {
                return true;
            }
            int first = others / 10;
            int second = others % 10;
            for (int left = 0; left < first; left++) {
                if (lostThird[10 * left + second] == third) {
                    return true;
                }
            }
            for (int left = 0; left < second; left++) {
                if (lostThird[10 * first + left] == third) {
                    return true;
                }
            }
            return false;
        }
    }

    /** Chances in tenths, brought to a lower number of 10 to the mine + theirs - 1. */
    private static final class Odds {
        /** That who lacks so many games (mine) has them ahead of the other one. */
        static long winning(int mine, int theirs, int t) {
            long sum = 0;
            for (int y = 0; y < theirs; y++) {
                sum += choose(mine - 1 + y, y) * power(t, mine) * power(10 - t, y)
                    * power(10, theirs - 1 - y);
            }
            return sum;
        }

        /** The mean is the sum, over every standing that does not end it, of the chance to come there. */
        static long games(int mine, int theirs, int t) {
            long sum = 0;
            for (int x = 0; x < mine; x++) {
                for (int y = 0; y < theirs; y++) {
                    sum += choose(x + y, y) * power(t, x) * power(10 - t, y)
                        * power(10, mine + theirs - 1 - x - y);
                }
            }
            return sum;
        }

        static long power(int base, int times) {
            long product = 1;
            for (int i = 0; i < times; i++) {
                product *= base;
            }
            return product;
        }

        private static long choose(int of, int some) {
            long ways = 1;
            for (int i = 1; i <= some; i++) {
                ways = ways * (of - some + i) / i;
            }
            return ways;
        }

        static long commonDivisor(long a, long b) {
            long greater = a;
            long lesser = b;
            for (int i = 0; i < 1000 && lesser != 0; i++) {
                long rest = greater % lesser;
                greater = lesser;
                lesser = rest;
            }
            return greater;
        }
    }

    /** All but the PAD, as it was once. */
    private static final class Image {
        final Table table = new Table();
        final Sights sights = new Sights();
        boolean kept;

        void keep(Table fromTable, Sights fromSights) {
            table.copy(fromTable);
            sights.copy(fromSights);
            kept = true;
        }
    }
}
