import java.util.Arrays;
import java.util.NoSuchElementException;

/** Nine on the grass: fielders round a bat, and what comes of every hit. */
public final class NineOnGrass {
    public static final int NONE = -1;

    private static final int ACROSS = 17;
    private static final int CELLS = 289;
    private static final int MIDDLE = 8;
    private static final int BAT = 144;
    private static final int BALLS = 6;
    private static final int MOST_HITS = 8;
    private static final int MOST_STEPS = 8;
    private static final int MOST_LINES = 30;
    private static final int MOST_BYTES = 800;
    private static final int FIELDERS = 9;
    private static final int WAYS = 4;
    private static final int TRAYS = 4;
    private static final int IMAGES = 3;
    private static final int MOST_SEEN = 9999;
    private static final int MOST_WALKED = FIELDERS * ACROSS;

    private static final int LOOKS = 1;
    private static final int KEEPS_DOWN = 2;
    private static final int LIFTS = 3;
    private static final int OTHER_WAY = 4;

    private static final int[] STEP_X = {0, 1, 1, 2, 1, 2, 1, 1, 0, -1, -1, -2, -1, -2, -1, -1};
    private static final int[] STEP_Y = {-1, -2, -1, -1, 0, 1, 1, 2, 1, 2, 1, 1, 0, -1, -1, -2};

    private final State now;
    private final State[] images;
    private final Tray[] trays;
    private final Reader reader;
    private final Ball laid;
    private final Umpire umpire;
    private final Finder finder;
    private final Mix mix;
    private final int[] trial;
    private final int[] order;
    private final int[] starts;
    private final int[] goals;
    private final int[] walked;
    private long upperNumber;
    private long lowerNumber;
    private int drawn;

    public NineOnGrass() {
        State state = new State();
        Ball ball = new Ball();
        Umpire judging = new Umpire(state.ground, state.squad, ball);
        now = state;
        laid = ball;
        umpire = judging;
        finder = new Finder(state.ground, state.squad, ball, judging);
        images = new State[IMAGES];
        trays = new Tray[TRAYS];
        reader = new Reader();
        mix = new Mix();
        trial = new int[FIELDERS];
        order = new int[Tray.MOST_MATCHED];
        starts = new int[FIELDERS];
        goals = new int[FIELDERS];
        walked = new int[1 << FIELDERS];
    }

    // ---- the field

    public int feed(int a, int b, int c, int d, int e) {
        if (reader.size > MOST_BYTES - 20) {
            return NONE;
        }
        reader.append(a);
        reader.append(b);
        reader.append(c);
        reader.append(d);
        reader.append(e);
        return reader.size;
    }

    public int field(int n) throws IllegalArgumentException {
        if (n < 0 || n > reader.size) {
            throw new IllegalArgumentException("the tape has not so many bytes");
        }
        boolean fine = reader.readField(n);
        reader.size = 0;
        if (!fine) {
            return -10 - reader.faultKind;
        }
        now.begin(reader.spare);
        return now.ground.lines;
    }

    public int fault(int what) {
        if (what == 0) {
            return reader.faultKind;
        }
        return what == 1 ? reader.faultPlace : NONE;
    }

    public int hits(int ball) throws NoSuchElementException {
        needBall(ball);
        return now.ground.hitsOf(ball);
    }

    public int hit(int ball, int hit, int what) throws NoSuchElementException, IllegalArgumentException {
        needHit(ball, hit);
        if (what < 0 || what > 5) {
            throw new IllegalArgumentException("no such what");
        }
        lay(ball);
        switch (what) {
            case 0:
                return laid.way[hit];
            case 1:
                return laid.pace[hit];
            case 2:
                return laid.air[hit];
            case 3:
                return laid.weight[hit];
            case 4:
                return laid.steps[hit];
            default:
                return now.day.seen[ball * MOST_HITS + hit];
        }
    }

    public int tick(int ball, int hit, int step) throws NoSuchElementException, IllegalArgumentException {
        needHit(ball, hit);
        lay(ball);
        if (step < 1 || step > laid.steps[hit]) {
            throw new IllegalArgumentException("no such step");
        }
        return laid.tickAt(hit, step);
    }

    // ---- fielders, batter

    public void fielder(int f, int pace, int hands, int per, int arm)
            throws NoSuchElementException, IllegalArgumentException {
        needFielder(f);
        needNumber(pace, 1, 9);
        needNumber(hands, 0, 100);
        needNumber(per, 0, 50);
        needNumber(arm, 0, 9);
        now.squad.pace[f] = pace;
        now.squad.hands[f] = hands;
        now.squad.per[f] = per;
        now.squad.arm[f] = arm;
    }

    public int stand(int f, int cell) throws NoSuchElementException, IllegalArgumentException {
        needFielder(f);
        needNumber(cell, NONE, CELLS - 1);
        int before = now.squad.stand[f];
        now.squad.stand[f] = cell;
        return before;
    }

    public int of(int f, int what) throws NoSuchElementException, IllegalArgumentException {
        needFielder(f);
        switch (what) {
            case 0:
                return now.squad.stand[f];
            case 1:
                return now.squad.pace[f];
            case 2:
                return now.squad.hands[f];
            case 3:
                return now.squad.per[f];
            case 4:
                return now.squad.arm[f];
            default:
                throw new IllegalArgumentException("no such what");
        }
    }

    public int judge() {
        return umpire.verdict(now.squad.stand);
    }

    public void batter(int kind, int share) throws IllegalArgumentException {
        needNumber(kind, 0, OTHER_WAY);
        needNumber(share, 0, 100);
        now.day.kind = kind;
        now.day.share = share;
    }

    // ---- what comes of a hit

    public int catcher(int ball, int hit) throws NoSuchElementException {
        weighNow(ball, hit);
        return umpire.whoCatches;
    }

    public int caught(int ball, int hit) throws NoSuchElementException {
        weighNow(ball, hit);
        return umpire.chance;
    }

    public int stopper(int ball, int hit) throws NoSuchElementException {
        weighNow(ball, hit);
        return umpire.whoStops;
    }

    public int stops(int ball, int hit) throws NoSuchElementException {
        weighNow(ball, hit);
        return umpire.stopStep;
    }

    public int runs(int ball, int hit) throws NoSuchElementException {
        weighNow(ball, hit);
        return umpire.hitRuns;
    }

    public int cost(int ball, int hit) throws NoSuchElementException {
        weighNow(ball, hit);
        return umpire.hitCost;
    }

    public boolean mean(int ball) throws NoSuchElementException {
        needBall(ball);
        lay(ball);
        return tell(umpire.meanTop(now.squad.stand), laid.meanBase());
    }

    public long upper() {
        return upperNumber;
    }

    public long lower() {
        return lowerNumber;
    }

    // ---- where to stand

    public int one(int f, int ball) throws NoSuchElementException, IllegalStateException {
        needFielder(f);
        needBall(ball);
        needThere(f);
        lay(ball);
        return finder.bestCell(f);
    }

    public int settle(int ball, int most) throws NoSuchElementException, IllegalArgumentException {
        needBall(ball);
        needNumber(most, 0, 50);
        lay(ball);
        int moves = 0;
        int quiet = 0;
        // A round without MOVES comes at the latest behind as many rounds as there are MOVES.
        for (int turn = 0; turn < (most + 1) * FIELDERS && moves < most; turn++) {
            int f = turn % FIELDERS;
            quiet = f == 0 ? 0 : quiet;
            int cell = now.squad.stand[f] == NONE ? NONE : finder.bestCell(f);
            if (cell != NONE && finder.bestTop < umpire.meanTop(now.squad.stand)) {
                now.squad.stand[f] = cell;
                moves++;
            } else {
                quiet++;
            }
            if (quiet == FIELDERS) {
                break;
            }
        }
        return moves;
    }

    public boolean bound(int ball) throws NoSuchElementException {
        needBall(ball);
        lay(ball);
        return tell(finder.boundTop(), laid.meanBase());
    }

    public boolean gap(int ball) throws NoSuchElementException {
        needBall(ball);
        lay(ball);
        return tell(umpire.meanTop(now.squad.stand) - finder.boundTop(), laid.meanBase());
    }

    // ---- ways to stand

    public void way(int i, int what) throws NoSuchElementException, IllegalArgumentException, IllegalStateException {
        needWay(i);
        needNumber(what, 0, 1);
        if (what == 0) {
            now.squad.keep(i);
            return;
        }
        needKept(i);
        now.squad.standAs(i, now.squad.stand);
    }

    public boolean rest(int a, int b, int ball, int what)
            throws NoSuchElementException, IllegalArgumentException, IllegalStateException {
        needWay(a);
        needWay(b);
        needBall(ball);
        needNumber(what, 0, 1);
        needKept(a);
        needKept(b);
        lay(ball);
        now.squad.standAs(a, trial);
        umpire.costsInto(trial, mix.first);
        now.squad.standAs(b, trial);
        umpire.costsInto(trial, mix.second);
        mix.solve(laid.hits);
        return what == 0 ? tell(mix.bestUpper, mix.bestLower) : tell(mix.bestValue, 100L * mix.bestLower);
    }

    public int walk(int a, int b) throws NoSuchElementException, IllegalStateException {
        needWay(a);
        needWay(b);
        needKept(a);
        needKept(b);
        int many = gather(a, starts);
        return gather(b, goals) == many ? leastWalk(many) : NONE;
    }

    public int tells(int a, int b) throws NoSuchElementException, IllegalStateException {
        needWay(a);
        needWay(b);
        needKept(a);
        needKept(b);
        int best = NONE;
        long bestRise = 0;
        long bestTotal = 1;
        for (int ball = 0; ball < BALLS; ball++) {
            lay(ball);
            long rise = riseBetween(a, b);
            if (rise * bestTotal > bestRise * laid.total) {
                best = ball;
                bestRise = rise;
                bestTotal = laid.total;
            }
        }
        return best;
    }

    // ---- who bowls, who stands where

    public int bowl() {
        int best = NONE;
        long bestTop = 0;
        long bestTotal = 1;
        for (int ball = 0; ball < BALLS; ball++) {
            lay(ball);
            if (laid.hits == 0) {
                continue;
            }
            long top = umpire.meanTop(now.squad.stand);
            if (best == NONE || top * bestTotal < bestTop * laid.total) {
                best = ball;
                bestTop = top;
                bestTotal = laid.total;
            }
        }
        return best;
    }

    public int match(int ball, int tray, int n, int i) throws NoSuchElementException, IllegalStateException,
            IllegalArgumentException, IndexOutOfBoundsException {
        needBall(ball);
        Tray cells = trayAt(tray);
        if (cells == null) {
            throw new IllegalStateException("the TRAY is MISSING");
        }
        needNumber(n, 1, Tray.MOST_MATCHED);
        needNumber(i, 0, n - 1);
        if (!cells.holdsOnly(0, n)) {
            throw new IllegalArgumentException("a number is no CELL");
        }
        if (cells.many < n) {
            throw new IndexOutOfBoundsException("the TRAY has fewer");
        }
        lay(ball);
        return bestPlace(cells, n, i);
    }

    public boolean worth(int f, int ball) throws NoSuchElementException, IllegalStateException {
        needFielder(f);
        needBall(ball);
        needThere(f);
        lay(ball);
        return tell(changeBy(f, NONE), laid.meanBase());
    }

    public boolean brave(int f, int ball, int cell)
            throws NoSuchElementException, IllegalStateException, IllegalArgumentException {
        needFielder(f);
        needBall(ball);
        needThere(f);
        needNumber(cell, 0, CELLS - 1);
        lay(ball);
        return tell(changeBy(f, cell), laid.meanBase());
    }

    public boolean both(int ball, int left) throws NoSuchElementException, IllegalArgumentException {
        needBall(ball);
        needNumber(left, 0, 100);
        laid.lay(now.ground, ball, OTHER_WAY, 0);
        long other = umpire.meanTop(now.squad.stand);
        laid.lay(now.ground, ball, 0, 0);
        long plain = umpire.meanTop(now.squad.stand);
        return tell(left * other + (100 - left) * plain, 100L * laid.meanBase());
    }

    // ---- the book, overs

    public int book(int ball, int hit, int many) throws NoSuchElementException, IllegalArgumentException {
        needHit(ball, hit);
        needNumber(many, 0, MOST_SEEN);
        int at = ball * MOST_HITS + hit;
        now.day.seen[at] = Math.min(MOST_SEEN, now.day.seen[at] + many);
        return now.day.seen[at];
    }

    public int learn(int ball) throws NoSuchElementException {
        needBall(ball);
        int hits = now.ground.hitsOf(ball);
        for (int hit = 0; hit < hits; hit++) {
            int at = ball * MOST_HITS + hit;
            now.ground.weight[at] = Math.max(1, Math.min(99, now.day.seen[at]));
        }
        return seenOf(ball);
    }

    public boolean ends(int ball, int hit, boolean most) throws NoSuchElementException {
        needHit(ball, hit);
        int seen = now.day.seen[ball * MOST_HITS + hit];
        int all = seenOf(ball);
        int end = most ? seen + leeway(seen) : seen - leeway(seen);
        return tell(Math.max(0, Math.min(all, end)), all);
    }

    public int enough(int ball, int hit, int w) throws NoSuchElementException, IllegalArgumentException {
        needHit(ball, hit);
        needNumber(w, 1, 100);
        int seen = now.day.seen[ball * MOST_HITS + hit];
        int all = seenOf(ball);
        if (all == 0) {
            return NONE;
        }
        for (int k = 1; k <= 100; k++) {
            if (200L * leeway(k * seen) <= (long) w * k * all) {
                return k;
            }
        }
        return NONE;
    }

    public boolean chase(boolean on) {
        boolean before = now.day.chasing;
        now.day.chasing = on;
        return before;
    }

    public int play(int ball, int n, int seed) throws NoSuchElementException, IllegalArgumentException {
        needBall(ball);
        needNumber(n, 1, 60);
        lay(ball);
        if (laid.hits == 0) {
            return NONE;
        }
        drawn = seed;
        int sum = 0;
        for (int turn = 0; turn < n; turn++) {
            sum += playHit(drawHit());
        }
        return sum;
    }

    public int score(int what) {
        return what >= 0 && what < now.day.score.length ? now.day.score[what] : NONE;
    }

    // ---- trays, images

    public void tray(int tray, int sort, int many) throws NoSuchElementException, IllegalArgumentException {
        Tray row = trayAt(tray);
        needNumber(sort, 0, 3);
        needNumber(many, 0, Tray.MOST_NUMBERS);
        if (row == null) {
            row = new Tray();
            trays[tray] = row;
        }
        row.empty(sort, many);
    }

    public long write(int tray, int place, long v)
            throws NoSuchElementException, IllegalStateException, IndexOutOfBoundsException {
        Tray row = trayAt(tray);
        if (row == null) {
            throw new IllegalStateException("the TRAY is MISSING");
        }
        if (place < 0 || place >= row.many) {
            throw new IndexOutOfBoundsException("no such place");
        }
        row.numbers[place] = row.cut(v);
        return row.numbers[place];
    }

    public int pour(int tray) throws NoSuchElementException, IllegalStateException, IllegalArgumentException {
        Tray row = trayAt(tray);
        if (row == null) {
            throw new IllegalStateException("the TRAY is MISSING");
        }
        if (row.many > FIELDERS || !row.holdsOnly(NONE, row.many)) {
            throw new IllegalArgumentException("these are no STANDS");
        }
        for (int f = 0; f < row.many; f++) {
            now.squad.stand[f] = (int) row.numbers[f];
        }
        return row.many;
    }

    public void image(int i) throws NoSuchElementException {
        needImage(i);
        State kept = images[i];
        if (kept == null) {
            kept = new State();
            images[i] = kept;
        }
        kept.copyFrom(now);
    }

    public void restore(int i) throws NoSuchElementException, IllegalStateException {
        needImage(i);
        State kept = images[i];
        if (kept == null) {
            throw new IllegalStateException("no such IMAGE was made");
        }
        now.copyFrom(kept);
    }

    public int count(int what) {
        if (what >= 100 && what < 100 + CELLS) {
            return now.ground.slow[what - 100];
        }
        switch (what) {
            case 0:
                return now.ground.lines;
            case 1:
                return now.ground.edge;
            case 2:
                return now.ground.run;
            case 3:
                return now.ground.worth;
            case 4:
                return now.ground.side;
            case 5:
                return now.ground.near;
            case 6:
                return now.squad.manyThere();
            case 7:
                return reader.size;
            case 8:
                return now.day.kind;
            case 9:
                return now.day.share;
            case 10:
                return now.day.chasing ? 1 : 0;
            case 11:
                return now.squad.keptBits;
            default:
                return NONE;
        }
    }

    // ---- what calls ask of their arguments

    private static void needBall(int ball) {
        if (ball < 0 || ball >= BALLS) {
            throw new NoSuchElementException("no such BALL");
        }
    }

    private void needHit(int ball, int hit) {
        needBall(ball);
        if (hit < 0 || hit >= now.ground.hitsOf(ball)) {
            throw new NoSuchElementException("no such HIT");
        }
    }

    private static void needFielder(int f) {
        if (f < 0 || f >= FIELDERS) {
            throw new NoSuchElementException("no such FIELDER");
        }
    }

    private static void needNumber(int number, int least, int most) {
        if (number < least || number > most) {
            throw new IllegalArgumentException("a number is out of its bounds");
        }
    }

    private void needThere(int f) {
        if (now.squad.stand[f] == NONE) {
            throw new IllegalStateException("the FIELDER isn't there");
        }
    }

    private static void needWay(int i) {
        if (i < 0 || i >= WAYS) {
            throw new NoSuchElementException("no such WAY TO STAND");
        }
    }

    private void needKept(int i) {
        if ((now.squad.keptBits >> i & 1) == 0) {
            throw new IllegalStateException("the WAY TO STAND isn't kept");
        }
    }

    private static void needImage(int i) {
        if (i < 0 || i >= IMAGES) {
            throw new NoSuchElementException("no such IMAGE");
        }
    }

    /** A TRAY, null if it is MISSING. */
    private Tray trayAt(int tray) {
        if (tray < 0 || tray >= TRAYS) {
            throw new NoSuchElementException("no such TRAY");
        }
        return trays[tray];
    }

    // ---- how calls do their work

    /** FAR of two CELLS. */
    private static int apart(int here, int there) {
        int x = here % ACROSS - there % ACROSS;
        int y = here / ACROSS - there / ACROSS;
        int east = x < 0 ? -x : x;
        int south = y < 0 ? -y : y;
        return east > south ? east : south;
    }

    private static void copyRow(int[] from, int[] to) {
        System.arraycopy(from, 0, to, 0, Math.min(from.length, to.length));
    }

    private void lay(int ball) {
        laid.lay(now.ground, ball, now.day.kind, now.day.share);
    }

    private void weighNow(int ball, int hit) {
        needHit(ball, hit);
        lay(ball);
        umpire.weigh(hit, now.squad.stand);
    }

    /** The FRACTION becomes top by base, 0 over 0 if there is no base. */
    private boolean tell(long top, long base) {
        if (base <= 0) {
            upperNumber = 0;
            lowerNumber = 0;
            return false;
        }
        long common = commonDivisor(top < 0 ? -top : top, base);
        if (common <= 0) {
            common = 1;
        }
        upperNumber = top / common;
        lowerNumber = base / common;
        return true;
    }

    private static long commonDivisor(long one, long other) {
        long a = one;
        long b = other;
        // Each two turns halve the numbers at least.
        for (int turn = 0; turn < 200 && b != 0; turn++) {
            long left = a % b;
            a = b;
            b = left;
        }
        return a;
    }

    /** The CELLS of a WAY TO STAND without those who aren't there: how many. */
    private int gather(int way, int[] cells) {
        now.squad.standAs(way, trial);
        int many = 0;
        for (int f = 0; f < FIELDERS; f++) {
            if (trial[f] != NONE) {
                cells[many] = trial[f];
                many++;
            }
        }
        return many;
    }

    /** Of each set of goals the least sum by which as many of the first starts come to them. */
    private int leastWalk(int many) {
        int all = (1 << many) - 1;
        Arrays.fill(walked, MOST_WALKED);
        walked[0] = 0;
        for (int set = 0; set < all; set++) {
            int who = Integer.bitCount(set);
            for (int to = 0; to < many; to++) {
                int with = set | 1 << to;
                if (with != set) {
                    walked[with] = Math.min(walked[with], walked[set] + apart(starts[who], goals[to]));
                }
            }
        }
        return walked[all];
    }

    /** How much MEAN of the BALL that is laid is above by one WAY TO STAND, in parts of its base. */
    private long riseBetween(int a, int b) {
        now.squad.standAs(a, trial);
        long above = umpire.meanTop(trial);
        now.squad.standAs(b, trial);
        return above - umpire.meanTop(trial);
    }

    private long changeBy(int f, int cell) {
        copyRow(now.squad.stand, trial);
        trial[f] = cell;
        return umpire.meanTop(trial) - umpire.meanTop(now.squad.stand);
    }

    private int bestPlace(Tray cells, int n, int i) {
        copyRow(now.squad.stand, trial);
        for (int f = 0; f < n; f++) {
            order[f] = f;
        }
        seat(cells, n);
        // LAWFUL hangs on which CELLS are taken, not on who has which: one look serves all orders.
        if (laid.hits == 0 || umpire.verdict(trial) != NONE) {
            return NONE;
        }
        int best = order[i];
        long least = umpire.meanTop(trial);
        for (int turn = 0; turn < 720 && nextOrder(n); turn++) {
            seat(cells, n);
            long top = umpire.meanTop(trial);
            if (top < least) {
                least = top;
                best = order[i];
            }
        }
        return best;
    }

    private void seat(Tray cells, int n) {
        for (int f = 0; f < n; f++) {
            trial[f] = (int) cells.numbers[order[f]];
        }
    }

    /** The next order by FIELDER 0's place, then 1's ..: whether there is one. */
    private boolean nextOrder(int n) {
        int turn = n - 2;
        while (turn >= 0 && order[turn] > order[turn + 1]) {
            turn--;
        }
        if (turn < 0) {
            return false;
        }
        int swap = n - 1;
        while (swap > turn && order[swap] < order[turn]) {
            swap--;
        }
        swapOrder(turn, swap);
        for (int low = turn + 1, high = n - 1; low < high; low++, high--) {
            swapOrder(low, high);
        }
        return true;
    }

    private void swapOrder(int one, int other) {
        int kept = order[one];
        order[one] = order[other];
        order[other] = kept;
    }

    private int seenOf(int ball) {
        int sum = 0;
        int hits = now.ground.hitsOf(ball);
        for (int hit = 0; hit < hits; hit++) {
            sum += now.day.seen[ball * MOST_HITS + hit];
        }
        return sum;
    }

    /** 1 and the greatest whole number whose square is not above n (a million at most). */
    private static int leeway(int n) {
        int root = 0;
        for (int bit = 512; bit > 0; bit >>= 1) {
            if ((root + bit) * (root + bit) <= n) {
                root += bit;
            }
        }
        return root + 1;
    }

    private int draw() {
        drawn = 1103515245 * drawn + 12345;
        return drawn >>> 16;
    }

    private int playHit(int hit) {
        umpire.weigh(hit, now.squad.stand);
        boolean out = umpire.chance > 0 && draw() % 100 < umpire.chance;
        int made = out ? 0 : umpire.hitRuns;
        now.day.note(made, out);
        if (made >= 4 && now.day.chasing) {
            chaseAfter(hit);
        }
        return made;
    }

    private int drawHit() {
        if (now.day.kind == LOOKS && draw() % 100 < now.day.share) {
            return umpire.dearest(now.squad.stand);
        }
        return laid.total > 0 ? laid.hitAt(draw() % laid.total) : 0;
    }

    private void chaseAfter(int hit) {
        int steps = laid.steps[hit];
        if (steps == 0) {
            return;
        }
        int[] stand = now.squad.stand;
        int goal = laid.cellAt(hit, steps);
        int nearest = now.squad.nearestTo(goal);
        if (nearest == NONE) {
            return;
        }
        int before = stand[nearest];
        stand[nearest] = goal;
        if (umpire.verdict(stand) != NONE) {
            stand[nearest] = before;
        }
    }

    /** THE FIELD as its TEXT tells it, and as it was LEARNED. */
    private static final class Ground {
        int lines;
        int edge;
        int run;
        int worth;
        int side;
        int near;
        final int[] slow = new int[CELLS];
        final int[] hits = new int[BALLS];
        final int[] way = new int[BALLS * MOST_HITS];
        final int[] pace = new int[BALLS * MOST_HITS];
        final int[] air = new int[BALLS * MOST_HITS];
        final int[] weight = new int[BALLS * MOST_HITS];

        Ground() {
            clear();
        }

        void clear() {
            lines = 0;
            edge = 8;
            run = 9;
            worth = 20;
            side = 9;
            near = 1;
            Arrays.fill(slow, 0);
            Arrays.fill(hits, 0);
        }

        void copyFrom(Ground from) {
            lines = from.lines;
            edge = from.edge;
            run = from.run;
            worth = from.worth;
            side = from.side;
            near = from.near;
            copyRow(from.slow, slow);
            copyRow(from.hits, hits);
            copyRow(from.way, way);
            copyRow(from.pace, pace);
            copyRow(from.air, air);
            copyRow(from.weight, weight);
        }

        int hitsOf(int ball) {
            return ball >= 0 && ball < BALLS ? hits[ball] : 0;
        }

        boolean liesIn(int x, int y) {
            int east = x - MIDDLE;
            int south = y - MIDDLE;
            return x >= 0 && x < ACROSS && y >= 0 && y < ACROSS && east * east + south * south <= edge * edge;
        }

        boolean liesIn(int cell) {
            return liesIn(cell % ACROSS, cell / ACROSS);
        }

        /** Whether a FIELDER may be on a CELL, if nobody else were there. */
        boolean mayHold(int cell) {
            return liesIn(cell) && apart(cell, BAT) >= near;
        }
    }

    /** The FIELDERS, where they are, and the WAYS TO STAND that are kept. */
    private static final class Squad {
        final int[] stand = new int[FIELDERS];
        final int[] pace = new int[FIELDERS];
        final int[] hands = new int[FIELDERS];
        final int[] per = new int[FIELDERS];
        final int[] arm = new int[FIELDERS];
        final int[] kept = new int[WAYS * FIELDERS];
        int keptBits;

        Squad() {
            Arrays.fill(stand, NONE);
            Arrays.fill(pace, 3);
            Arrays.fill(hands, 80);
            Arrays.fill(per, 10);
            Arrays.fill(arm, 1);
        }

        void copyFrom(Squad from) {
            copyRow(from.stand, stand);
            copyRow(from.pace, pace);
            copyRow(from.hands, hands);
            copyRow(from.per, per);
            copyRow(from.arm, arm);
            copyRow(from.kept, kept);
            keptBits = from.keptBits;
        }

        void leave() {
            Arrays.fill(stand, NONE);
            keptBits = 0;
        }

        void keep(int i) {
            System.arraycopy(stand, 0, kept, i * FIELDERS, FIELDERS);
            keptBits |= 1 << i;
        }

        void standAs(int i, int[] stands) {
            System.arraycopy(kept, i * FIELDERS, stands, 0, FIELDERS);
        }

        int manyThere() {
            int many = 0;
            for (int f = 0; f < FIELDERS; f++) {
                many += stand[f] == NONE ? 0 : 1;
            }
            return many;
        }

        int nearestTo(int cell) {
            int best = NONE;
            int least = 0;
            for (int f = 0; f < FIELDERS; f++) {
                if (stand[f] == NONE) {
                    continue;
                }
                int far = apart(stand[f], cell);
                if (best == NONE || far < least) {
                    best = f;
                    least = far;
                }
            }
            return best;
        }
    }

    /** The BATTER, THE BOOK, CHASE and SCORE. */
    private static final class Day {
        int kind;
        int share;
        boolean chasing;
        final int[] seen = new int[BALLS * MOST_HITS];
        final int[] score = new int[4];

        void copyFrom(Day from) {
            kind = from.kind;
            share = from.share;
            chasing = from.chasing;
            copyRow(from.seen, seen);
            copyRow(from.score, score);
        }

        void forget() {
            Arrays.fill(seen, 0);
            Arrays.fill(score, 0);
        }

        void note(int made, boolean out) {
            score[0] += made;
            score[1] += out ? 1 : 0;
            score[2] += made >= 4 ? 1 : 0;
            score[3]++;
        }
    }

    /** All that an IMAGE holds. */
    private static final class State {
        final Ground ground = new Ground();
        final Squad squad = new Squad();
        final Day day = new Day();

        void copyFrom(State from) {
            ground.copyFrom(from.ground);
            squad.copyFrom(from.squad);
            day.copyFrom(from.day);
        }

        void begin(Ground told) {
            ground.copyFrom(told);
            squad.leave();
            day.forget();
        }
    }

    /** The tape, and how a TEXT on it is read, TOKEN by TOKEN, up to its first FAULT. */
    private static final class Reader {
        private static final int END = 0;
        private static final int WORD = 1;
        private static final int NUMBER = 2;
        private static final int SIGN = 3;
        private static final int BAD = 4;

        private static final int EDGE = 0;
        private static final int RUN = 1;
        private static final int WORTH = 2;
        private static final int SIDE = 3;
        private static final int NEAR = 4;
        private static final int SLOW = 5;
        private static final int BALL = 6;

        final byte[] tape = new byte[MOST_BYTES];
        int size;
        final Ground spare = new Ground();
        int faultKind;
        int faultPlace = NONE;

        private int length;
        private int place;
        private int token;
        private int start;
        private int number;
        private int told;

        void append(int four) {
            for (int shift = 24; shift >= 0 && size < MOST_BYTES; shift -= 8) {
                tape[size] = (byte) (four >> shift);
                size++;
            }
        }

        boolean readField(int n) {
            length = Math.min(n, size);
            place = 0;
            faultKind = 0;
            faultPlace = NONE;
            spare.clear();
            advance();
            for (int line = 0; line <= MOST_LINES; line++) {
                if (token == END) {
                    spare.lines = line;
                    return true;
                }
                int named = lineNamed();
                if (named == NONE) {
                    return fail(2);
                }
                if (line == MOST_LINES) {
                    return fail(4);
                }
                advance();
                boolean fine = named == SLOW ? readSlow() : named == BALL ? readBall() : readSetting(named);
                if (!fine || !readSign()) {
                    return false;
                }
            }
            return false;
        }

        private int lineNamed() {
            if (isWord("ball")) {
                return BALL;
            }
            if (isWord("slow")) {
                return SLOW;
            }
            if (isWord("edge")) {
                return EDGE;
            }
            if (isWord("run")) {
                return RUN;
            }
            if (isWord("worth")) {
                return WORTH;
            }
            if (isWord("side")) {
                return SIDE;
            }
            return isWord("near") ? NEAR : NONE;
        }

        private boolean readSetting(int named) {
            switch (named) {
                case EDGE:
                    if (readNumber(2, 8)) {
                        spare.edge = told;
                    }
                    break;
                case RUN:
                    if (readNumber(1, 60)) {
                        spare.run = told;
                    }
                    break;
                case WORTH:
                    if (readNumber(0, 99)) {
                        spare.worth = told;
                    }
                    break;
                case SIDE:
                    if (readNumber(0, 9)) {
                        spare.side = told;
                    }
                    break;
                default:
                    if (readNumber(0, 8)) {
                        spare.near = told;
                    }
                    break;
            }
            return faultKind == 0;
        }

        private boolean readSlow() {
            if (!readNumber(0, 20)) {
                return false;
            }
            int slow = told;
            if (!readWord("at")) {
                return false;
            }
            // Each turn takes a TOKEN of the TEXT.
            for (int turn = 0; turn < MOST_BYTES; turn++) {
                if (!readNumber(0, CELLS - 1)) {
                    return false;
                }
                spare.slow[told] = slow;
                if (token != NUMBER) {
                    break;
                }
            }
            return true;
        }

        private boolean readBall() {
            if (!readNumber(0, BALLS - 1)) {
                return false;
            }
            int ball = told;
            for (int turn = 0; turn <= MOST_HITS; turn++) {
                if (!isWord("way")) {
                    return turn > 0 || fail(2);
                }
                int before = spare.hitsOf(ball);
                if (before >= MOST_HITS) {
                    return fail(5);
                }
                advance();
                if (!readHit(ball * MOST_HITS + before)) {
                    return false;
                }
                spare.hits[ball] = before + 1;
            }
            return false;
        }

        /** A HIT behind the word way. */
        private boolean readHit(int at) {
            if (!readNumber(0, 15)) {
                return false;
            }
            spare.way[at] = told;
            if (!readWord("pace") || !readNumber(1, 9)) {
                return false;
            }
            spare.pace[at] = told;
            spare.air[at] = 0;
            if (isWord("air")) {
                advance();
                if (!readNumber(1, 8)) {
                    return false;
                }
                spare.air[at] = told;
            }
            if (!readWord("for") || !readNumber(1, 99)) {
                return false;
            }
            spare.weight[at] = told;
            return true;
        }

        private boolean readNumber(int least, int most) {
            if (token != NUMBER) {
                return fail(2);
            }
            if (number < least || number > most) {
                return fail(3);
            }
            told = number;
            advance();
            return true;
        }

        private boolean readSign() {
            if (token != SIGN) {
                return fail(2);
            }
            advance();
            return true;
        }

        private boolean readWord(String word) {
            if (!isWord(word)) {
                return fail(2);
            }
            advance();
            return true;
        }

        /** What is no TOKEN at all is the least FAULT, wherever it stands. */
        private boolean fail(int kind) {
            faultKind = token == BAD ? 1 : kind;
            faultPlace = start;
            return false;
        }

        private boolean isWord(String word) {
            if (token != WORD || place - start != word.length()) {
                return false;
            }
            for (int i = 0; i < word.length(); i++) {
                if (signAt(start + i) != word.charAt(i)) {
                    return false;
                }
            }
            return true;
        }

        /** Goes to the next TOKEN: words and numbers go on as long as they can, other signs stand alone. */
        private void advance() {
            while (place < length && isBlank(signAt(place))) {
                place++;
            }
            start = place;
            token = place < length ? sortOf(signAt(place)) : END;
            number = 0;
            boolean goesOn = place < length;
            while (goesOn && place < length) {
                if (token == NUMBER && place - start < 3) {
                    number = number * 10 + signAt(place) - '0';
                }
                place++;
                goesOn = (token == WORD || token == NUMBER) && sortOf(signAt(place)) == token;
            }
            if (token == NUMBER && place - start > 3) {
                token = BAD;
            }
        }

        private static int sortOf(int sign) {
            if (sign >= 'a' && sign <= 'z') {
                return WORD;
            }
            if (sign >= '0' && sign <= '9') {
                return NUMBER;
            }
            return sign == ';' ? SIGN : BAD;
        }

        private int signAt(int i) {
            return i >= 0 && i < length && i < MOST_BYTES ? tape[i] : 0;
        }

        private static boolean isBlank(int sign) {
            return sign == 10 || sign == 32;
        }
    }

    /** A BALL with its HITS as a BATTER makes them: where they come to, and when. */
    private static final class Ball {
        int hits;
        int total;
        int share;
        final int[] way = new int[MOST_HITS];
        final int[] pace = new int[MOST_HITS];
        final int[] air = new int[MOST_HITS];
        final int[] weight = new int[MOST_HITS];
        final int[] steps = new int[MOST_HITS];
        private final int[] cell = new int[MOST_HITS * MOST_STEPS];
        private final int[] time = new int[MOST_HITS * MOST_STEPS];

        void lay(Ground ground, int ball, int kind, int shareToLook) {
            hits = ground.hitsOf(ball);
            total = 0;
            share = kind == LOOKS ? shareToLook : 0;
            for (int h = 0; h < hits; h++) {
                int at = ball * MOST_HITS + h;
                way[h] = wayBy(kind, ground.way[at]);
                pace[h] = ground.pace[at];
                air[h] = airBy(kind, ground.air[at]);
                weight[h] = ground.weight[at];
                total += weight[h];
                run(ground, h);
            }
        }

        private static int wayBy(int kind, int told) {
            return (kind == OTHER_WAY ? 16 - told : told) & 15;
        }

        private static int airBy(int kind, int told) {
            if (kind == KEEPS_DOWN) {
                return 0;
            }
            return kind == LIFTS ? Math.max(3, told) : told;
        }

        private void run(Ground ground, int h) {
            int direction = way[h] & 15;
            int x = MIDDLE;
            int y = MIDDLE;
            int sum = 0;
            steps[h] = 0;
            for (int k = 1; k <= MOST_STEPS; k++) {
                x += STEP_X[direction];
                y += STEP_Y[direction];
                if (!ground.liesIn(x, y)) {
                    break;
                }
                int at = y * ACROSS + x;
                sum += pace[h] + (k >= air[h] ? ground.slow[at] : 0);
                cell[h * MOST_STEPS + k - 1] = at;
                time[h * MOST_STEPS + k - 1] = sum;
                steps[h] = k;
            }
        }

        int cellAt(int h, int k) {
            return k >= 1 && k <= MOST_STEPS ? cell[h * MOST_STEPS + k - 1] : BAT;
        }

        int tickAt(int h, int k) {
            return k >= 1 && k <= MOST_STEPS ? time[h * MOST_STEPS + k - 1] : 0;
        }

        /** Whether the HIT comes down where it could be caught. */
        boolean isHigh(int h) {
            return air[h] >= 1 && air[h] <= steps[h];
        }

        int runsUnstopped(int h) {
            return air[h] > steps[h] ? 6 : 4;
        }

        int hitAt(int drawn) {
            int left = drawn;
            for (int h = 0; h < hits; h++) {
                left -= weight[h];
                if (left < 0) {
                    return h;
                }
            }
            return 0;
        }

        /** What MEAN is above its base, by for times COST of all and by the greatest COST. */
        long blend(long sum, long most) {
            return (100 - share) * sum + share * most * total;
        }

        long meanBase() {
            return 10000L * total;
        }
    }

    /** Tells who comes first to the HITS of the BALL that is laid, and what is LAWFUL. */
    private static final class Umpire {
        private final Ground ground;
        private final Squad squad;
        private final Ball ball;
        int whoCatches;
        int chance;
        int whoStops;
        int stopStep;
        int hitRuns;
        int hitCost;

        Umpire(Ground ground, Squad squad, Ball ball) {
            this.ground = ground;
            this.squad = squad;
            this.ball = ball;
        }

        int verdict(int[] stands) {
            int left = 0;
            for (int f = 0; f < FIELDERS; f++) {
                if (stands[f] == NONE) {
                    continue;
                }
                left += stands[f] % ACROSS < MIDDLE ? 1 : 0;
                int why = reasonAgainst(stands, f, left);
                if (why != 0) {
                    return 10 * f + why;
                }
            }
            return NONE;
        }

        private int reasonAgainst(int[] stands, int f, int left) {
            if (!ground.liesIn(stands[f])) {
                return 1;
            }
            if (apart(stands[f], BAT) < ground.near) {
                return 2;
            }
            for (int lesser = 0; lesser < f; lesser++) {
                if (stands[lesser] == stands[f]) {
                    return 3;
                }
            }
            return left > ground.side ? 4 : 0;
        }

        void weigh(int h, int[] stands) {
            int down = ball.cellAt(h, ball.air[h]);
            whoCatches = ball.isHigh(h) ? firstAt(h, ball.air[h], stands, NONE) : NONE;
            chance = whoCatches == NONE ? 0 : chanceAt(whoCatches, apart(stands[whoCatches], down));
            findStop(h, stands, whoCatches);
            hitRuns = runsBy(h, whoStops, stopStep);
            hitCost = price(chance, hitRuns);
        }

        void findStop(int h, int[] stands, int whoWaits) {
            whoStops = NONE;
            stopStep = NONE;
            for (int k = ball.air[h] + 1; k <= ball.steps[h] && whoStops == NONE; k++) {
                whoStops = firstAt(h, k, stands, whoWaits);
                if (whoStops != NONE) {
                    stopStep = k;
                }
            }
        }

        /** Of FIELDERS that REACH a step, but for one, who has the least FAR times PACE. */
        private int firstAt(int h, int k, int[] stands, int butFor) {
            int cell = ball.cellAt(h, k);
            int tick = ball.tickAt(h, k);
            int best = NONE;
            int least = 0;
            for (int f = 0; f < FIELDERS; f++) {
                if (stands[f] == NONE || f == butFor) {
                    continue;
                }
                int time = apart(stands[f], cell) * squad.pace[f];
                if (time <= tick && (best == NONE || time < least)) {
                    best = f;
                    least = time;
                }
            }
            return best;
        }

        int timeTo(int f, int stand, int cell) {
            return apart(stand, cell) * squad.pace[f];
        }

        int chanceAt(int f, int far) {
            return Math.max(0, squad.hands[f] - squad.per[f] * far);
        }

        int runsBy(int h, int f, int k) {
            if (f == NONE) {
                return ball.runsUnstopped(h);
            }
            int time = ball.tickAt(h, k) + squad.arm[f] * apart(ball.cellAt(h, k), BAT);
            return ground.run > 0 ? Math.min(3, time / ground.run) : 3;
        }

        /** COST by a CATCH (0: the same as without a CATCHER) and RUNS. */
        int price(int caughtOf100, int made) {
            return (100 - caughtOf100) * made - ground.worth * caughtOf100;
        }

        long meanTop(int[] stands) {
            long sum = 0;
            int most = 0;
            for (int h = 0; h < ball.hits; h++) {
                weigh(h, stands);
                sum += (long) ball.weight[h] * hitCost;
                most = h == 0 ? hitCost : Math.max(most, hitCost);
            }
            return ball.blend(sum, most);
        }

        void costsInto(int[] stands, int[] row) {
            for (int h = 0; h < ball.hits; h++) {
                weigh(h, stands);
                row[h] = hitCost;
            }
        }

        int dearest(int[] stands) {
            int best = 0;
            int most = 0;
            for (int h = 0; h < ball.hits; h++) {
                weigh(h, stands);
                if (h == 0 || hitCost > most) {
                    best = h;
                    most = hitCost;
                }
            }
            return best;
        }
    }

    /** Finds ONE and BOUND of the BALL that is laid. */
    private static final class Finder {
        private final Ground ground;
        private final Squad squad;
        private final Ball ball;
        private final Umpire umpire;
        private final int[] others = new int[FIELDERS];
        private final int[] rival = new int[MOST_HITS];
        private final int[] rivalTime = new int[MOST_HITS];
        private final int[] rivalChance = new int[MOST_HITS];
        private final int[] runsWhileCaught = new int[MOST_HITS];
        private final int[] restWho = new int[MOST_HITS];
        private final int[] restStep = new int[MOST_HITS];
        private final int[] restTime = new int[MOST_HITS];
        private final int[] restRuns = new int[MOST_HITS];
        private final int[] leastFar = new int[MOST_STEPS + 1];
        private int leftOthers;
        long bestTop;

        Finder(Ground ground, Squad squad, Ball ball, Umpire umpire) {
            this.ground = ground;
            this.squad = squad;
            this.ball = ball;
            this.umpire = umpire;
        }

        /** ONE of a FIELDER (NONE: no CELL, no MEAN); bestTop tells MEAN there. */
        int bestCell(int f) {
            copyRow(squad.stand, others);
            others[f] = NONE;
            if (ball.hits == 0 || umpire.verdict(others) != NONE) {
                return NONE;
            }
            weighOthers();
            int best = NONE;
            for (int cell = 0; cell < CELLS; cell++) {
                if (!mayGo(cell)) {
                    continue;
                }
                long top = topWith(f, cell);
                if (best == NONE || top < bestTop) {
                    best = cell;
                    bestTop = top;
                }
            }
            return best;
        }

        /** The others stand LAWFULLY and stay: what they do at each HIT is told once for all CELLS. */
        private void weighOthers() {
            leftOthers = 0;
            for (int f = 0; f < FIELDERS; f++) {
                leftOthers += others[f] != NONE && others[f] % ACROSS < MIDDLE ? 1 : 0;
            }
            for (int h = 0; h < ball.hits; h++) {
                umpire.findStop(h, others, NONE);
                runsWhileCaught[h] = umpire.runsBy(h, umpire.whoStops, umpire.stopStep);
                umpire.weigh(h, others);
                rival[h] = umpire.whoCatches;
                rivalChance[h] = umpire.chance;
                rivalTime[h] = timeOf(umpire.whoCatches, h, ball.air[h]);
                restWho[h] = umpire.whoStops;
                restStep[h] = umpire.stopStep;
                restTime[h] = timeOf(umpire.whoStops, h, umpire.stopStep);
                restRuns[h] = umpire.hitRuns;
            }
        }

        private int timeOf(int f, int h, int k) {
            return f == NONE ? 0 : umpire.timeTo(f, others[f], ball.cellAt(h, k));
        }

        private boolean mayGo(int cell) {
            if (!ground.mayHold(cell) || cell % ACROSS < MIDDLE && leftOthers >= ground.side) {
                return false;
            }
            for (int f = 0; f < FIELDERS; f++) {
                if (others[f] == cell) {
                    return false;
                }
            }
            return true;
        }

        private long topWith(int f, int cell) {
            long sum = 0;
            int most = 0;
            for (int h = 0; h < ball.hits; h++) {
                int cost = costWith(h, f, cell);
                sum += (long) ball.weight[h] * cost;
                most = h == 0 ? cost : Math.max(most, cost);
            }
            return ball.blend(sum, most);
        }

        private int costWith(int h, int f, int cell) {
            int air = ball.air[h];
            if (ball.isHigh(h)) {
                int far = apart(cell, ball.cellAt(h, air));
                int time = far * squad.pace[f];
                if (time <= ball.tickAt(h, air) && goesFirst(f, time, rival[h], rivalTime[h])) {
                    return umpire.price(umpire.chanceAt(f, far), runsWhileCaught[h]);
                }
            }
            return umpire.price(rivalChance[h], runsWith(h, f, cell));
        }

        private int runsWith(int h, int f, int cell) {
            int last = restWho[h] == NONE ? ball.steps[h] : restStep[h];
            for (int k = ball.air[h] + 1; k <= last; k++) {
                int time = umpire.timeTo(f, cell, ball.cellAt(h, k));
                boolean first = k != restStep[h] || goesFirst(f, time, restWho[h], restTime[h]);
                if (time <= ball.tickAt(h, k) && first) {
                    return umpire.runsBy(h, f, k);
                }
            }
            return restRuns[h];
        }

        private static boolean goesFirst(int f, int time, int other, int otherTime) {
            return other == NONE || time < otherTime || time == otherTime && f < other;
        }

        /** BOUND above the base of MEAN. */
        long boundTop() {
            long sum = 0;
            for (int h = 0; h < ball.hits; h++) {
                sum += (long) ball.weight[h] * boundCost(h);
            }
            return 100 * sum;
        }

        private int boundCost(int h) {
            for (int k = 1; k <= ball.steps[h]; k++) {
                leastFar[k] = leastFarFrom(ball.cellAt(h, k));
            }
            int most = 0;
            int least = ball.runsUnstopped(h);
            for (int f = 0; f < FIELDERS; f++) {
                if (squad.stand[f] != NONE) {
                    most = Math.max(most, chanceAlone(h, f));
                    least = Math.min(least, runsAlone(h, f));
                }
            }
            return umpire.price(most, least);
        }

        /** FAR of a CELL from the nearest one where a FIELDER may be; NONE: there is none. */
        private int leastFarFrom(int cell) {
            int least = NONE;
            for (int from = 0; from < CELLS; from++) {
                if (ground.mayHold(from) && (least == NONE || apart(from, cell) < least)) {
                    least = apart(from, cell);
                }
            }
            return least;
        }

        private boolean mayReach(int h, int k, int f) {
            return leastFar[k] != NONE && leastFar[k] * squad.pace[f] <= ball.tickAt(h, k);
        }

        private int chanceAlone(int h, int f) {
            int air = ball.air[h];
            return ball.isHigh(h) && mayReach(h, air, f) ? umpire.chanceAt(f, leastFar[air]) : 0;
        }

        /** RUNS never fall from step to step: the first step that any CELL lets it REACH has the least. */
        private int runsAlone(int h, int f) {
            for (int k = ball.air[h] + 1; k <= ball.steps[h]; k++) {
                if (mayReach(h, k, f)) {
                    return umpire.runsBy(h, f, k);
                }
            }
            return ball.runsUnstopped(h);
        }
    }

    /** Finds REST: the least peak of lines from the second COST (p 0) to the first (p 1) of each HIT. */
    private static final class Mix {
        final int[] first = new int[MOST_HITS];
        final int[] second = new int[MOST_HITS];
        private int many;
        long bestUpper;
        long bestLower;
        long bestValue;

        /** The peak is least at an end or where two lines cross. */
        void solve(int hits) {
            many = hits;
            bestUpper = 0;
            bestLower = 0;
            bestValue = 0;
            if (many == 0) {
                return;
            }
            consider(0, 1);
            consider(1, 1);
            for (int i = 0; i < many; i++) {
                for (int j = 0; j < i; j++) {
                    considerCrossing(i, j);
                }
            }
        }

        private void considerCrossing(int i, int j) {
            long over = second[j] - second[i];
            long under = (first[i] - second[i]) - (first[j] - second[j]);
            if (under < 0) {
                over = -over;
                under = -under;
            }
            if (under > 0 && over >= 0 && over <= under) {
                consider(over, under);
            }
        }

        private void consider(long over, long under) {
            long peak = over * first[0] + (under - over) * second[0];
            for (int i = 1; i < many; i++) {
                peak = Math.max(peak, over * first[i] + (under - over) * second[i]);
            }
            long mine = peak * bestLower;
            long best = bestValue * under;
            if (bestLower == 0 || mine < best || mine == best && over * bestLower < bestUpper * under) {
                bestUpper = over;
                bestLower = under;
                bestValue = peak;
            }
        }
    }

    /** A row of numbers of one sort. */
    private static final class Tray {
        private static final int MOST_NUMBERS = 40;
        private static final int MOST_MATCHED = 6;

        private int sort;
        int many;
        final long[] numbers = new long[MOST_NUMBERS];

        void empty(int newSort, int newMany) {
            sort = newSort;
            many = newMany;
            Arrays.fill(numbers, 0);
        }

        long cut(long v) {
            switch (sort) {
                case 0:
                    return (byte) v;
                case 1:
                    return (short) v;
                case 2:
                    return (int) v;
                default:
                    return v;
            }
        }

        /** Whether its first n numbers, as far as it has them, are CELLS (or NONE, if that is the least). */
        boolean holdsOnly(int least, int n) {
            for (int place = 0; place < n && place < many; place++) {
                if (numbers[place] < least || numbers[place] >= CELLS) {
                    return false;
                }
            }
            return true;
        }
    }
}
